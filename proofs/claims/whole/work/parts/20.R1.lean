def f_R_thrown (th : Int32) : Int32 :=
  th
set_option maxHeartbeats 4000000 in
set_option maxRecDepth 100000 in
theorem c_R_thrown (l : Launch) (D : va_G) (q : Nat → ClassId) (xa : Nat → Nat) (th : Int32) (ca : Int32) (st : Int32) (co : Int32) (ra : Int32) (rb : Int32) (rc : Int32) (im : Int32) (hf : Int32) (rz : Bool) (fM : Nat → Int32) (gT : Nat → Bool) (cK : Nat → Cp) : PMi l y_R_thrown b_R_thrown 1 (some .int) ({ frames := 0, cells := 0, slots := 0, locals := 0 }) [.ref (xa 0)] D (tyR q) (rW q xa th ca st co ra rb rc im hf rz fM gT cK) ((f_R_thrown th)) := by
  refine ofP (by decide) (Nat.le_of_ble_eq_true rfl) ?_
  intro p e s m below meth c ls S hr hlocks hK hN hP hl
  have hx := S.1
  have hb := S.2.1
  have hl : lv_has ls 1 [(0, .ref (xa 0))] := hl
  refine lv_aload_n hx hb d_R_thrown_0 rfl (lv_at hl 0 rfl) ?_
  refine r_get S hK hP 0 (by decide) fl_R_39 rfl d_R_thrown_1 ?_
  exact e_pi S hr hlocks (rfl : f_R_thrown th = th).symm d_R_thrown_4
def f_R_refuse (wy : Int32) : Int32 × Int32 :=
  ((0 : Int32), wy)
set_option maxHeartbeats 4000000 in
set_option maxRecDepth 100000 in
theorem c_R_refuse (l : Launch) (D : va_G) (q : Nat → ClassId) (xa : Nat → Nat) (th : Int32) (ca : Int32) (st : Int32) (co : Int32) (ra : Int32) (rb : Int32) (rc : Int32) (im : Int32) (hf : Int32) (rz : Bool) (fM : Nat → Int32) (gT : Nat → Bool) (cK : Nat → Cp) (A : Nat → Prop) (hD : va_D A (rW q xa th ca st co ra rb rc im hf rz fM gT cK)) (wy : Int32) : WMi l y_R_refuse b_R_refuse 2 (some .int) ({ frames := 0, cells := 0, slots := 0, locals := 0 }) [.ref (xa 0), .int wy] D (tyR q) (rW q xa th ca st co ra rb rc im hf rz fM gT cK) (rW q xa ((f_R_refuse wy).2) ca st co ra rb rc im hf rz fM gT cK) A (((f_R_refuse wy).1)) := by
  refine ofI (by decide) (Nat.le_of_ble_eq_true rfl) ?_
  intro p e s m below meth c ls S hr hlocks hK hN hP hl
  have hx := S.1
  have hb := S.2.1
  have hS : va_S A s.heap s.heap [] := va_S.rf
  have hl : lv_has ls 2 [(0, .ref (xa 0)), (1, .int wy)] := hl
  refine lv_aload_n hx hb d_R_refuse_0 rfl (lv_at hl 0 rfl) ?_
  refine lv_iload_n hx hb d_R_refuse_1 rfl (lv_at hl 1 rfl) ?_
  refine r_put_th S hK hP (rW_D hD) hS fl_R_39 d_R_refuse_2 (fun H locs hP hS => ?_)
  refine lv_iconst (v := (0 : Int32)) hx hb d_R_refuse_5 (by decide) ?_
  have hF : f_R_refuse wy = ((0 : Int32), wy) := rfl
  exact e_wi S hr hlocks hP hS (congrArg (fun z => z.1) hF.symm) (congrArg (fun z => rW q xa z.2 ca st co ra rb rc im hf rz fM gT cK) hF.symm) d_R_refuse_6
def f_R_outside (vv : Int32) (lw : Int32) (hg : Int32) : Bool :=
  if vv < lw then true else (if vv ≤ hg then false else true)
set_option maxHeartbeats 4000000 in
set_option maxRecDepth 100000 in
theorem c_R_outside (l : Launch) (D : va_G) (q : Nat → ClassId) (xa : Nat → Nat) (th : Int32) (ca : Int32) (st : Int32) (co : Int32) (ra : Int32) (rb : Int32) (rc : Int32) (im : Int32) (hf : Int32) (rz : Bool) (fM : Nat → Int32) (gT : Nat → Bool) (cK : Nat → Cp) (vv : Int32) (lw : Int32) (hg : Int32) : PMi l y_R_outside b_R_outside 3 (some .boolean) ({ frames := 0, cells := 0, slots := 0, locals := 0 }) [.int vv, .int lw, .int hg] D (tyR q) (rW q xa th ca st co ra rb rc im hf rz fM gT cK) (b2i (f_R_outside vv lw hg)) := by
  refine ofP (by decide) (Nat.le_of_ble_eq_true rfl) ?_
  intro p e s m below meth c ls S hr hlocks hK hN hP hl
  have hx := S.1
  have hb := S.2.1
  have hl : lv_has ls 3 [(0, .int vv), (1, .int lw), (2, .int hg)] := hl
  refine lv_iload_n hx hb d_R_outside_0 rfl (lv_at hl 0 rfl) ?_
  refine lv_iload_n hx hb d_R_outside_1 rfl (lv_at hl 1 rfl) ?_
  refine jn 15 ls [] (b2i (if vv < lw then true else (if vv ≤ hg then false else true))) ?_ (fun k_15 => ?_)
  · -- from 15 on
    exact e_pz (z := if vv < lw then true else (if vv ≤ hg then false else true)) S hr hlocks (congrArg b2i (rfl : f_R_outside vv lw hg = if vv < lw then true else (if vv ≤ hg then false else true)).symm) d_R_outside_15
  · -- to 15
    refine lv_icmp_lt (tgt := 10) hx hb d_R_outside_2 rfl (fun h_2 => ?_) (fun h_2 => ?_)
    · -- 2: taken
      refine lv_iconst (v := (1 : Int32)) hx hb d_R_outside_10 (by decide) ?_
      refine lv_goto (tgt := 15) hx hb d_R_outside_11 rfl ?_
      exact k_15 _ (congrArg b2i ((if_pos h_2).trans (rfl) : (if vv < lw then true else (if vv ≤ hg then false else true)) = true).symm)
    · -- 2: not taken
      refine lv_iload_n hx hb d_R_outside_5 rfl (lv_at hl 0 rfl) ?_
      refine lv_iload_n hx hb d_R_outside_6 rfl (lv_at hl 2 rfl) ?_
      refine lv_icmp_le (tgt := 14) hx hb d_R_outside_7 rfl (fun h_7 => ?_) (fun h_7 => ?_)
      · -- 7: taken
        refine lv_iconst (v := (0 : Int32)) hx hb d_R_outside_14 (by decide) ?_
        exact k_15 _ (congrArg b2i ((if_neg h_2).trans ((if_pos h_7).trans (rfl)) : (if vv < lw then true else (if vv ≤ hg then false else true)) = false).symm)
      · -- 7: not taken
        refine lv_iconst (v := (1 : Int32)) hx hb d_R_outside_10 (by decide) ?_
        refine lv_goto (tgt := 15) hx hb d_R_outside_11 rfl ?_
        exact k_15 _ (congrArg b2i ((if_neg h_2).trans ((if_neg h_7).trans (rfl)) : (if vv < lw then true else (if vv ≤ hg then false else true)) = true).symm)
def f_R_set (cK : Nat → Cp) (r0 : Int32) (lw : Int32) (hg : Int32) (xt : Int32) (my : Int32) : (Nat → Cp) :=
  va_up cK r0.toNatClampNeg (s_y (s_p (s_a (s_t (s_b (s_v (cK r0.toNatClampNeg) true) lw) hg) xt) my) (0 : Int32))
set_option maxHeartbeats 4000000 in
set_option maxRecDepth 100000 in
theorem c_R_set (l : Launch) (D : va_G) (q : Nat → ClassId) (xa : Nat → Nat) (th : Int32) (ca : Int32) (st : Int32) (co : Int32) (ra : Int32) (rb : Int32) (rc : Int32) (im : Int32) (hf : Int32) (rz : Bool) (fM : Nat → Int32) (gT : Nat → Bool) (cK : Nat → Cp) (A : Nat → Prop) (hD : va_D A (rW q xa th ca st co ra rb rc im hf rz fM gT cK)) (r0 : Int32) (lw : Int32) (hg : Int32) (xt : Int32) (my : Int32) (hr0 : vp_in r0 12) : WMv l y_R_set b_R_set 6 none ({ frames := 0, cells := 0, slots := 0, locals := 0 }) [.ref (xa 0), .int r0, .int lw, .int hg, .int xt, .int my] D (tyR q) (rW q xa th ca st co ra rb rc im hf rz fM gT cK) (rW q xa th ca st co ra rb rc im hf rz fM gT (f_R_set cK r0 lw hg xt my)) A := by
  refine ofV (by decide) (Nat.le_of_ble_eq_true rfl) ?_
  intro p e s m below meth c ls S hr hlocks hK hN hP hl
  have hx := S.1
  have hb := S.2.1
  have hS : va_S A s.heap s.heap [] := va_S.rf
  have hl : lv_has ls 6 [(0, .ref (xa 0)), (1, .int r0), (2, .int lw), (3, .int hg), (4, .int xt), (5, .int my)] := hl
  refine lv_aload_n hx hb d_R_set_0 rfl (lv_at hl 0 rfl) ?_
  refine r_get S hK hP 3 (by decide) fl_R_17 rfl d_R_set_1 ?_
  refine lv_iload_n hx hb d_R_set_4 rfl (lv_at hl 1 rfl) ?_
  refine lv_iconst (v := (1 : Int32)) hx hb d_R_set_5 (by decide) ?_
  refine r_ast_v (z := true) S hK hP (rW_D hD) hS (by first | assumption | exact and7_in _) d_R_set_6 (fun H locs hP hS => ?_)
  refine lv_aload_n hx hb d_R_set_7 rfl (lv_at hl 0 rfl) ?_
  refine r_get S hK hP 4 (by decide) fl_R_20 rfl d_R_set_8 ?_
  refine lv_iload_n hx hb d_R_set_11 rfl (lv_at hl 1 rfl) ?_
  refine lv_iload_n hx hb d_R_set_12 rfl (lv_at hl 2 rfl) ?_
  refine r_ast_bO S hK hP (rW_D hD) hS (by first | assumption | exact and7_in _) d_R_set_13 (fun H locs hP hS => ?_)
  refine lv_aload_n hx hb d_R_set_14 rfl (lv_at hl 0 rfl) ?_
  refine r_get S hK hP 5 (by decide) fl_R_23 rfl d_R_set_15 ?_
  refine lv_iload_n hx hb d_R_set_18 rfl (lv_at hl 1 rfl) ?_
  refine lv_iload_n hx hb d_R_set_19 rfl (lv_at hl 3 rfl) ?_
  refine r_ast_tO S hK hP (rW_D hD) hS (by first | assumption | exact and7_in _) d_R_set_20 (fun H locs hP hS => ?_)
  refine lv_aload_n hx hb d_R_set_21 rfl (lv_at hl 0 rfl) ?_
  refine r_get S hK hP 6 (by decide) fl_R_26 rfl d_R_set_22 ?_
  refine lv_iload_n hx hb d_R_set_25 rfl (lv_at hl 1 rfl) ?_
  refine lv_iload hx hb d_R_set_26 (lv_at hl 4 rfl) ?_
  refine r_ast_aO S hK hP (rW_D hD) hS (by first | assumption | exact and7_in _) d_R_set_28 (fun H locs hP hS => ?_)
  refine lv_aload_n hx hb d_R_set_29 rfl (lv_at hl 0 rfl) ?_
  refine r_get S hK hP 7 (by decide) fl_R_29 rfl d_R_set_30 ?_
  refine lv_iload_n hx hb d_R_set_33 rfl (lv_at hl 1 rfl) ?_
  refine lv_iload hx hb d_R_set_34 (lv_at hl 5 rfl) ?_
  refine r_ast_pO S hK hP (rW_D hD) hS (by first | assumption | exact and7_in _) d_R_set_36 (fun H locs hP hS => ?_)
  refine lv_aload_n hx hb d_R_set_37 rfl (lv_at hl 0 rfl) ?_
  refine r_get S hK hP 8 (by decide) fl_R_32 rfl d_R_set_38 ?_
  refine lv_iload_n hx hb d_R_set_41 rfl (lv_at hl 1 rfl) ?_
  refine lv_iconst (v := (0 : Int32)) hx hb d_R_set_42 (by decide) ?_
  refine r_ast_yO S hK hP (rW_D hD) hS (by first | assumption | exact and7_in _) d_R_set_43 (fun H locs hP hS => ?_)
  have hF : f_R_set cK r0 lw hg xt my = va_up cK r0.toNatClampNeg (s_y (s_p (s_a (s_t (s_b (s_v (cK r0.toNatClampNeg) true) lw) hg) xt) my) (0 : Int32)) := rfl
  exact e_wv S hr hlocks hP hS (congrArg (fun z => rW q xa th ca st co ra rb rc im hf rz fM gT z) hF.symm) d_R_set_44
def f_R_number (cK : Nat → Cp) (r0 : Int32) (nu : Int32) : (Nat → Cp) :=
  va_up (f_R_set cK r0 (0 : Int32) (0 : Int32) nu (0 : Int32)) r0.toNatClampNeg (s_v ((f_R_set cK r0 (0 : Int32) (0 : Int32) nu (0 : Int32)) r0.toNatClampNeg) false)
set_option maxHeartbeats 4000000 in
set_option maxRecDepth 100000 in
theorem c_R_number (l : Launch) (D : va_G) (q : Nat → ClassId) (xa : Nat → Nat) (th : Int32) (ca : Int32) (st : Int32) (co : Int32) (ra : Int32) (rb : Int32) (rc : Int32) (im : Int32) (hf : Int32) (rz : Bool) (fM : Nat → Int32) (gT : Nat → Bool) (cK : Nat → Cp) (A : Nat → Prop) (hD : va_D A (rW q xa th ca st co ra rb rc im hf rz fM gT cK)) (r0 : Int32) (nu : Int32) (hr0 : vp_in r0 12) : WMv l y_R_number b_R_number 3 none ({ frames := 1, cells := 0, slots := 0, locals := 25 }) [.ref (xa 0), .int r0, .int nu] D (tyR q) (rW q xa th ca st co ra rb rc im hf rz fM gT cK) (rW q xa th ca st co ra rb rc im hf rz fM gT (f_R_number cK r0 nu)) A := by
  refine ofV (by decide) (Nat.le_of_ble_eq_true rfl) ?_
  intro p e s m below meth c ls S hr hlocks hK hN hP hl
  have hx := S.1
  have hb := S.2.1
  have hS : va_S A s.heap s.heap [] := va_S.rf
  have hl : lv_has ls 3 [(0, .ref (xa 0)), (1, .int r0), (2, .int nu)] := hl
  refine lv_aload_n hx hb d_R_number_0 rfl (lv_at hl 0 rfl) ?_
  refine lv_iload_n hx hb d_R_number_1 rfl (lv_at hl 1 rfl) ?_
  refine lv_iconst (v := (0 : Int32)) hx hb d_R_number_2 (by decide) ?_
  refine lv_iconst (v := (0 : Int32)) hx hb d_R_number_3 (by decide) ?_
  refine lv_iload_n hx hb d_R_number_4 rfl (lv_at hl 2 rfl) ?_
  refine lv_iconst (v := (0 : Int32)) hx hb d_R_number_5 (by decide) ?_
  refine c_vV [] S (c_R_set l _ _ _ _ _ _ _ _ _ _ _ _ _ _ _ _ A (rW_D hD) r0 (0 : Int32) (0 : Int32) nu (0 : Int32) (by first | assumption | exact in_k rfl | decide)) mf_R_set ml_R_35 hK hN hP hS 0 3 rfl rfl ⟨rfl, rfl, Nat.le_of_ble_eq_true rfl, Nat.le_of_ble_eq_true rfl⟩ rfl hl.1 rfl (Nat.le_of_ble_eq_true rfl) d_R_number_6 ⟨Nat.zero_le _, Nat.zero_le _⟩ (fun H locs hP hS => ?_)
  refine lv_aload_n hx hb d_R_number_9 rfl (lv_at hl 0 rfl) ?_
  refine r_get S hK hP 3 (by decide) fl_R_17 rfl d_R_number_10 ?_
  refine lv_iload_n hx hb d_R_number_13 rfl (lv_at hl 1 rfl) ?_
  refine lv_iconst (v := (0 : Int32)) hx hb d_R_number_14 (by decide) ?_
  refine r_ast_v (z := false) S hK hP (rW_D hD) hS (by first | assumption | exact and7_in _) d_R_number_15 (fun H locs hP hS => ?_)
  have hF : f_R_number cK r0 nu = va_up (f_R_set cK r0 (0 : Int32) (0 : Int32) nu (0 : Int32)) r0.toNatClampNeg (s_v ((f_R_set cK r0 (0 : Int32) (0 : Int32) nu (0 : Int32)) r0.toNatClampNeg) false) := rfl
  exact e_wv S hr hlocks hP hS (congrArg (fun z => rW q xa th ca st co ra rb rc im hf rz fM gT z) hF.symm) d_R_number_16
def f_R_copy (cK : Nat → Cp) (r0 : Int32) (r1 : Int32) : (Nat → Cp) :=
  va_up (f_R_set cK r1 (k_b (cK r0.toNatClampNeg)) (k_t (cK r0.toNatClampNeg)) (k_a (cK r0.toNatClampNeg)) (k_p (cK r0.toNatClampNeg))) r1.toNatClampNeg (s_y (s_v ((f_R_set cK r1 (k_b (cK r0.toNatClampNeg)) (k_t (cK r0.toNatClampNeg)) (k_a (cK r0.toNatClampNeg)) (k_p (cK r0.toNatClampNeg))) r1.toNatClampNeg) (k_v ((f_R_set cK r1 (k_b (cK r0.toNatClampNeg)) (k_t (cK r0.toNatClampNeg)) (k_a (cK r0.toNatClampNeg)) (k_p (cK r0.toNatClampNeg))) r0.toNatClampNeg))) (k_y ((va_up (f_R_set cK r1 (k_b (cK r0.toNatClampNeg)) (k_t (cK r0.toNatClampNeg)) (k_a (cK r0.toNatClampNeg)) (k_p (cK r0.toNatClampNeg))) r1.toNatClampNeg (s_v ((f_R_set cK r1 (k_b (cK r0.toNatClampNeg)) (k_t (cK r0.toNatClampNeg)) (k_a (cK r0.toNatClampNeg)) (k_p (cK r0.toNatClampNeg))) r1.toNatClampNeg) (k_v ((f_R_set cK r1 (k_b (cK r0.toNatClampNeg)) (k_t (cK r0.toNatClampNeg)) (k_a (cK r0.toNatClampNeg)) (k_p (cK r0.toNatClampNeg))) r0.toNatClampNeg)))) r0.toNatClampNeg)))
set_option maxHeartbeats 4000000 in
set_option maxRecDepth 100000 in
theorem c_R_copy (l : Launch) (D : va_G) (q : Nat → ClassId) (xa : Nat → Nat) (th : Int32) (ca : Int32) (st : Int32) (co : Int32) (ra : Int32) (rb : Int32) (rc : Int32) (im : Int32) (hf : Int32) (rz : Bool) (fM : Nat → Int32) (gT : Nat → Bool) (cK : Nat → Cp) (A : Nat → Prop) (hD : va_D A (rW q xa th ca st co ra rb rc im hf rz fM gT cK)) (r0 : Int32) (r1 : Int32) (hr0 : vp_in r0 12) (hr1 : vp_in r1 12) : WMv l y_R_copy b_R_copy 3 none ({ frames := 1, cells := 0, slots := 0, locals := 25 }) [.ref (xa 0), .int r0, .int r1] D (tyR q) (rW q xa th ca st co ra rb rc im hf rz fM gT cK) (rW q xa th ca st co ra rb rc im hf rz fM gT (f_R_copy cK r0 r1)) A := by
  refine ofV (by decide) (Nat.le_of_ble_eq_true rfl) ?_
  intro p e s m below meth c ls S hr hlocks hK hN hP hl
  have hx := S.1
  have hb := S.2.1
  have hS : va_S A s.heap s.heap [] := va_S.rf
  have hl : lv_has ls 3 [(0, .ref (xa 0)), (1, .int r0), (2, .int r1)] := hl
  refine lv_aload_n hx hb d_R_copy_0 rfl (lv_at hl 0 rfl) ?_
  refine lv_iload_n hx hb d_R_copy_1 rfl (lv_at hl 2 rfl) ?_
  refine lv_aload_n hx hb d_R_copy_2 rfl (lv_at hl 0 rfl) ?_
  refine r_get S hK hP 4 (by decide) fl_R_20 rfl d_R_copy_3 ?_
  refine lv_iload_n hx hb d_R_copy_6 rfl (lv_at hl 1 rfl) ?_
  refine r_ald_b S hK hP (by first | assumption | exact and7_in _) d_R_copy_7 ?_
  refine lv_aload_n hx hb d_R_copy_8 rfl (lv_at hl 0 rfl) ?_
  refine r_get S hK hP 5 (by decide) fl_R_23 rfl d_R_copy_9 ?_
  refine lv_iload_n hx hb d_R_copy_12 rfl (lv_at hl 1 rfl) ?_
  refine r_ald_t S hK hP (by first | assumption | exact and7_in _) d_R_copy_13 ?_
  refine lv_aload_n hx hb d_R_copy_14 rfl (lv_at hl 0 rfl) ?_
  refine r_get S hK hP 6 (by decide) fl_R_26 rfl d_R_copy_15 ?_
  refine lv_iload_n hx hb d_R_copy_18 rfl (lv_at hl 1 rfl) ?_
  refine r_ald_a S hK hP (by first | assumption | exact and7_in _) d_R_copy_19 ?_
  refine lv_aload_n hx hb d_R_copy_20 rfl (lv_at hl 0 rfl) ?_
  refine r_get S hK hP 7 (by decide) fl_R_29 rfl d_R_copy_21 ?_
  refine lv_iload_n hx hb d_R_copy_24 rfl (lv_at hl 1 rfl) ?_
  refine r_ald_p S hK hP (by first | assumption | exact and7_in _) d_R_copy_25 ?_
  refine c_vV [] S (c_R_set l _ _ _ _ _ _ _ _ _ _ _ _ _ _ _ _ A (rW_D hD) r1 (k_b (cK r0.toNatClampNeg)) (k_t (cK r0.toNatClampNeg)) (k_a (cK r0.toNatClampNeg)) (k_p (cK r0.toNatClampNeg)) (by first | assumption | exact in_k rfl | decide)) mf_R_set ml_R_35 hK hN hP hS 0 3 rfl rfl ⟨rfl, rfl, Nat.le_of_ble_eq_true rfl, Nat.le_of_ble_eq_true rfl⟩ rfl hl.1 rfl (Nat.le_of_ble_eq_true rfl) d_R_copy_26 ⟨Nat.zero_le _, Nat.zero_le _⟩ (fun H locs hP hS => ?_)
  refine lv_aload_n hx hb d_R_copy_29 rfl (lv_at hl 0 rfl) ?_
  refine r_get S hK hP 3 (by decide) fl_R_17 rfl d_R_copy_30 ?_
  refine lv_iload_n hx hb d_R_copy_33 rfl (lv_at hl 2 rfl) ?_
  refine lv_aload_n hx hb d_R_copy_34 rfl (lv_at hl 0 rfl) ?_
  refine r_get S hK hP 3 (by decide) fl_R_17 rfl d_R_copy_35 ?_
  refine lv_iload_n hx hb d_R_copy_38 rfl (lv_at hl 1 rfl) ?_
  refine r_ald_v S hK hP (by first | assumption | exact and7_in _) d_R_copy_39 ?_
  refine r_ast_v (z := k_v ((f_R_set cK r1 (k_b (cK r0.toNatClampNeg)) (k_t (cK r0.toNatClampNeg)) (k_a (cK r0.toNatClampNeg)) (k_p (cK r0.toNatClampNeg))) r0.toNatClampNeg)) S hK hP (rW_D hD) hS (by first | assumption | exact and7_in _) d_R_copy_40 (fun H locs hP hS => ?_)
  refine lv_aload_n hx hb d_R_copy_41 rfl (lv_at hl 0 rfl) ?_
  refine r_get S hK hP 8 (by decide) fl_R_32 rfl d_R_copy_42 ?_
  refine lv_iload_n hx hb d_R_copy_45 rfl (lv_at hl 2 rfl) ?_
  refine lv_aload_n hx hb d_R_copy_46 rfl (lv_at hl 0 rfl) ?_
  refine r_get S hK hP 8 (by decide) fl_R_32 rfl d_R_copy_47 ?_
  refine lv_iload_n hx hb d_R_copy_50 rfl (lv_at hl 1 rfl) ?_
  refine r_ald_y S hK hP (by first | assumption | exact and7_in _) d_R_copy_51 ?_
  refine r_ast_yO S hK hP (rW_D hD) hS (by first | assumption | exact and7_in _) d_R_copy_52 (fun H locs hP hS => ?_)
  have hF : f_R_copy cK r0 r1 = va_up (f_R_set cK r1 (k_b (cK r0.toNatClampNeg)) (k_t (cK r0.toNatClampNeg)) (k_a (cK r0.toNatClampNeg)) (k_p (cK r0.toNatClampNeg))) r1.toNatClampNeg (s_y (s_v ((f_R_set cK r1 (k_b (cK r0.toNatClampNeg)) (k_t (cK r0.toNatClampNeg)) (k_a (cK r0.toNatClampNeg)) (k_p (cK r0.toNatClampNeg))) r1.toNatClampNeg) (k_v ((f_R_set cK r1 (k_b (cK r0.toNatClampNeg)) (k_t (cK r0.toNatClampNeg)) (k_a (cK r0.toNatClampNeg)) (k_p (cK r0.toNatClampNeg))) r0.toNatClampNeg))) (k_y ((va_up (f_R_set cK r1 (k_b (cK r0.toNatClampNeg)) (k_t (cK r0.toNatClampNeg)) (k_a (cK r0.toNatClampNeg)) (k_p (cK r0.toNatClampNeg))) r1.toNatClampNeg (s_v ((f_R_set cK r1 (k_b (cK r0.toNatClampNeg)) (k_t (cK r0.toNatClampNeg)) (k_a (cK r0.toNatClampNeg)) (k_p (cK r0.toNatClampNeg))) r1.toNatClampNeg) (k_v ((f_R_set cK r1 (k_b (cK r0.toNatClampNeg)) (k_t (cK r0.toNatClampNeg)) (k_a (cK r0.toNatClampNeg)) (k_p (cK r0.toNatClampNeg))) r0.toNatClampNeg)))) r0.toNatClampNeg))) := rfl
  exact e_wv S hr hlocks hP hS (congrArg (fun z => rW q xa th ca st co ra rb rc im hf rz fM gT z) hF.symm) d_R_copy_53
def f_R_move (cK : Nat → Cp) (r0 : Int32) (tt : Int32) : (Nat → Cp) :=
  va_up cK r0.toNatClampNeg (s_a (s_v (cK r0.toNatClampNeg) (if (k_v (cK r0.toNatClampNeg)) = true then (if (f_R_outside tt ((k_b (cK r0.toNatClampNeg)) - (64 : Int32)) ((k_t (cK r0.toNatClampNeg)) + (63 : Int32))) = true then false else true) else false)) tt)
set_option maxHeartbeats 4000000 in
set_option maxRecDepth 100000 in
theorem c_R_move (l : Launch) (D : va_G) (q : Nat → ClassId) (xa : Nat → Nat) (th : Int32) (ca : Int32) (st : Int32) (co : Int32) (ra : Int32) (rb : Int32) (rc : Int32) (im : Int32) (hf : Int32) (rz : Bool) (fM : Nat → Int32) (gT : Nat → Bool) (cK : Nat → Cp) (A : Nat → Prop) (hD : va_D A (rW q xa th ca st co ra rb rc im hf rz fM gT cK)) (r0 : Int32) (tt : Int32) (hr0 : vp_in r0 12) : WMv l y_R_move b_R_move 3 none ({ frames := 1, cells := 0, slots := 0, locals := 22 }) [.ref (xa 0), .int r0, .int tt] D (tyR q) (rW q xa th ca st co ra rb rc im hf rz fM gT cK) (rW q xa th ca st co ra rb rc im hf rz fM gT (f_R_move cK r0 tt)) A := by
  refine ofV (by decide) (Nat.le_of_ble_eq_true rfl) ?_
  intro p e s m below meth c ls S hr hlocks hK hN hP hl
  have hx := S.1
  have hb := S.2.1
  have hS : va_S A s.heap s.heap [] := va_S.rf
  have hl : lv_has ls 3 [(0, .ref (xa 0)), (1, .int r0), (2, .int tt)] := hl
  refine lv_aload_n hx hb d_R_move_0 rfl (lv_at hl 0 rfl) ?_
  refine r_get S hK hP 3 (by decide) fl_R_17 rfl d_R_move_1 ?_
  refine lv_iload_n hx hb d_R_move_4 rfl (lv_at hl 1 rfl) ?_
  refine lv_aload_n hx hb d_R_move_5 rfl (lv_at hl 0 rfl) ?_
  refine r_get S hK hP 3 (by decide) fl_R_17 rfl d_R_move_6 ?_
  refine lv_iload_n hx hb d_R_move_9 rfl (lv_at hl 1 rfl) ?_
  refine r_ald_v S hK hP (by first | assumption | exact and7_in _) d_R_move_10 ?_
  refine jn 44 ls [.int r0, .ref (xa 3)] (b2i (if (k_v (cK r0.toNatClampNeg)) = true then (if (f_R_outside tt ((k_b (cK r0.toNatClampNeg)) - (64 : Int32)) ((k_t (cK r0.toNatClampNeg)) + (63 : Int32))) = true then false else true) else false)) ?_ (fun k_44 => ?_)
  · -- from 44 on
    refine r_ast_v (z := if (k_v (cK r0.toNatClampNeg)) = true then (if (f_R_outside tt ((k_b (cK r0.toNatClampNeg)) - (64 : Int32)) ((k_t (cK r0.toNatClampNeg)) + (63 : Int32))) = true then false else true) else false) S hK hP (rW_D hD) hS (by first | assumption | exact and7_in _) d_R_move_44 (fun H locs hP hS => ?_)
    refine lv_aload_n hx hb d_R_move_45 rfl (lv_at hl 0 rfl) ?_
    refine r_get S hK hP 6 (by decide) fl_R_26 rfl d_R_move_46 ?_
    refine lv_iload_n hx hb d_R_move_49 rfl (lv_at hl 1 rfl) ?_
    refine lv_iload_n hx hb d_R_move_50 rfl (lv_at hl 2 rfl) ?_
    refine r_ast_aO S hK hP (rW_D hD) hS (by first | assumption | exact and7_in _) d_R_move_51 (fun H locs hP hS => ?_)
    have hF : f_R_move cK r0 tt = va_up cK r0.toNatClampNeg (s_a (s_v (cK r0.toNatClampNeg) (if (k_v (cK r0.toNatClampNeg)) = true then (if (f_R_outside tt ((k_b (cK r0.toNatClampNeg)) - (64 : Int32)) ((k_t (cK r0.toNatClampNeg)) + (63 : Int32))) = true then false else true) else false)) tt) := rfl
    exact e_wv S hr hlocks hP hS (congrArg (fun z => rW q xa th ca st co ra rb rc im hf rz fM gT z) hF.symm) d_R_move_52
  · -- to 44
    refine zb_eq (tgt := 43) hx hb d_R_move_11 rfl (fun h_11 => ?_) (fun h_11 => ?_)
    · -- 11: taken
      refine lv_iconst (v := (0 : Int32)) hx hb d_R_move_43 (by decide) ?_
      exact k_44 _ (congrArg b2i ((if_neg (bn_f h_11)).trans (rfl) : (if (k_v (cK r0.toNatClampNeg)) = true then (if (f_R_outside tt ((k_b (cK r0.toNatClampNeg)) - (64 : Int32)) ((k_t (cK r0.toNatClampNeg)) + (63 : Int32))) = true then false else true) else false) = false).symm)
    · -- 11: not taken
      refine lv_iload_n hx hb d_R_move_14 rfl (lv_at hl 2 rfl) ?_
      refine lv_aload_n hx hb d_R_move_15 rfl (lv_at hl 0 rfl) ?_
      refine r_get S hK hP 4 (by decide) fl_R_20 rfl d_R_move_16 ?_
      refine lv_iload_n hx hb d_R_move_19 rfl (lv_at hl 1 rfl) ?_
      refine r_ald_b S hK hP (by first | assumption | exact and7_in _) d_R_move_20 ?_
      refine lv_bipush (v := (64 : Int32)) hx hb d_R_move_21 (by decide) ?_
      refine lv_isub hx hb d_R_move_23 ?_
      refine lv_aload_n hx hb d_R_move_24 rfl (lv_at hl 0 rfl) ?_
      refine r_get S hK hP 5 (by decide) fl_R_23 rfl d_R_move_25 ?_
      refine lv_iload_n hx hb d_R_move_28 rfl (lv_at hl 1 rfl) ?_
      refine r_ald_t S hK hP (by first | assumption | exact and7_in _) d_R_move_29 ?_
      refine lv_bipush (v := (63 : Int32)) hx hb d_R_move_30 (by decide) ?_
      refine lv_iadd hx hb d_R_move_32 ?_
      refine c_pS [.int r0, .ref (xa 3)] S (c_R_outside l _ _ _ _ _ _ _ _ _ _ _ _ _ _ _ _ tt ((k_b (cK r0.toNatClampNeg)) - (64 : Int32)) ((k_t (cK r0.toNatClampNeg)) + (63 : Int32))) mf_R_outside ml_R_43 hK hN hP ⟨rfl, rfl, Nat.le_of_ble_eq_true rfl, Nat.le_of_ble_eq_true rfl⟩ rfl hl.1 rfl (Nat.le_of_ble_eq_true rfl) d_R_move_33 ⟨Nat.zero_le _, Nat.zero_le _⟩ ?_
      refine zb_ne (tgt := 43) hx hb d_R_move_36 rfl (fun h_36 => ?_) (fun h_36 => ?_)
      · -- 36: taken
        refine lv_iconst (v := (0 : Int32)) hx hb d_R_move_43 (by decide) ?_
        exact k_44 _ (congrArg b2i ((if_pos h_11).trans ((if_pos h_36).trans (rfl)) : (if (k_v (cK r0.toNatClampNeg)) = true then (if (f_R_outside tt ((k_b (cK r0.toNatClampNeg)) - (64 : Int32)) ((k_t (cK r0.toNatClampNeg)) + (63 : Int32))) = true then false else true) else false) = false).symm)
      · -- 36: not taken
        refine lv_iconst (v := (1 : Int32)) hx hb d_R_move_39 (by decide) ?_
        refine lv_goto (tgt := 44) hx hb d_R_move_40 rfl ?_
        exact k_44 _ (congrArg b2i ((if_pos h_11).trans ((if_neg (bn_f h_36)).trans (rfl)) : (if (k_v (cK r0.toNatClampNeg)) = true then (if (f_R_outside tt ((k_b (cK r0.toNatClampNeg)) - (64 : Int32)) ((k_t (cK r0.toNatClampNeg)) + (63 : Int32))) = true then false else true) else false) = true).symm)
def f_R_may (cK : Nat → Cp) (r0 : Int32) (wh : Int32) : Bool :=
  if ((k_p (cK r0.toNatClampNeg)) &&& wh) = wh then true else false
set_option maxHeartbeats 4000000 in
set_option maxRecDepth 100000 in
theorem c_R_may (l : Launch) (D : va_G) (q : Nat → ClassId) (xa : Nat → Nat) (th : Int32) (ca : Int32) (st : Int32) (co : Int32) (ra : Int32) (rb : Int32) (rc : Int32) (im : Int32) (hf : Int32) (rz : Bool) (fM : Nat → Int32) (gT : Nat → Bool) (cK : Nat → Cp) (r0 : Int32) (wh : Int32) (hr0 : vp_in r0 12) : PMi l y_R_may b_R_may 3 (some .boolean) ({ frames := 0, cells := 0, slots := 0, locals := 0 }) [.ref (xa 0), .int r0, .int wh] D (tyR q) (rW q xa th ca st co ra rb rc im hf rz fM gT cK) (b2i (f_R_may cK r0 wh)) := by
  refine ofP (by decide) (Nat.le_of_ble_eq_true rfl) ?_
  intro p e s m below meth c ls S hr hlocks hK hN hP hl
  have hx := S.1
  have hb := S.2.1
  have hl : lv_has ls 3 [(0, .ref (xa 0)), (1, .int r0), (2, .int wh)] := hl
  refine lv_aload_n hx hb d_R_may_0 rfl (lv_at hl 0 rfl) ?_
  refine r_get S hK hP 7 (by decide) fl_R_29 rfl d_R_may_1 ?_
  refine lv_iload_n hx hb d_R_may_4 rfl (lv_at hl 1 rfl) ?_
  refine r_ald_p S hK hP (by first | assumption | exact and7_in _) d_R_may_5 ?_
  refine lv_iload_n hx hb d_R_may_6 rfl (lv_at hl 2 rfl) ?_
  refine lv_iand hx hb d_R_may_7 ?_
  refine lv_iload_n hx hb d_R_may_8 rfl (lv_at hl 2 rfl) ?_
  refine jn 17 ls [] (b2i (if ((k_p (cK r0.toNatClampNeg)) &&& wh) = wh then true else false)) ?_ (fun k_17 => ?_)
  · -- from 17 on
    exact e_pz (z := if ((k_p (cK r0.toNatClampNeg)) &&& wh) = wh then true else false) S hr hlocks (congrArg b2i (rfl : f_R_may cK r0 wh = if ((k_p (cK r0.toNatClampNeg)) &&& wh) = wh then true else false).symm) d_R_may_17
  · -- to 17
    refine lv_icmp_ne (tgt := 16) hx hb d_R_may_9 rfl (fun h_9 => ?_) (fun h_9 => ?_)
    · -- 9: taken
      refine lv_iconst (v := (0 : Int32)) hx hb d_R_may_16 (by decide) ?_
      exact k_17 _ (congrArg b2i ((if_neg h_9).trans (rfl) : (if ((k_p (cK r0.toNatClampNeg)) &&& wh) = wh then true else false) = false).symm)
    · -- 9: not taken
      refine lv_iconst (v := (1 : Int32)) hx hb d_R_may_12 (by decide) ?_
      refine lv_goto (tgt := 17) hx hb d_R_may_13 rfl ?_
      exact k_17 _ (congrArg b2i ((if_pos h_9).trans (rfl) : (if ((k_p (cK r0.toNatClampNeg)) &&& wh) = wh then true else false) = true).symm)
def f_R_usable (cK : Nat → Cp) (r0 : Int32) : Int32 :=
  if (k_v (cK r0.toNatClampNeg)) = true then (if (k_y (cK r0.toNatClampNeg)) ≤ (0 : Int32) then (0 : Int32) else (2 : Int32)) else (1 : Int32)
set_option maxHeartbeats 4000000 in
set_option maxRecDepth 100000 in
theorem c_R_usable (l : Launch) (D : va_G) (q : Nat → ClassId) (xa : Nat → Nat) (th : Int32) (ca : Int32) (st : Int32) (co : Int32) (ra : Int32) (rb : Int32) (rc : Int32) (im : Int32) (hf : Int32) (rz : Bool) (fM : Nat → Int32) (gT : Nat → Bool) (cK : Nat → Cp) (r0 : Int32) (hr0 : vp_in r0 12) : PMi l y_R_usable b_R_usable 2 (some .int) ({ frames := 0, cells := 0, slots := 0, locals := 0 }) [.ref (xa 0), .int r0] D (tyR q) (rW q xa th ca st co ra rb rc im hf rz fM gT cK) ((f_R_usable cK r0)) := by
  refine ofP (by decide) (Nat.le_of_ble_eq_true rfl) ?_
  intro p e s m below meth c ls S hr hlocks hK hN hP hl
  have hx := S.1
  have hb := S.2.1
  have hl : lv_has ls 2 [(0, .ref (xa 0)), (1, .int r0)] := hl
  refine lv_aload_n hx hb d_R_usable_0 rfl (lv_at hl 0 rfl) ?_
  refine r_get S hK hP 3 (by decide) fl_R_17 rfl d_R_usable_1 ?_
  refine lv_iload_n hx hb d_R_usable_4 rfl (lv_at hl 1 rfl) ?_
  refine r_ald_v S hK hP (by first | assumption | exact and7_in _) d_R_usable_5 ?_
  refine jn 27 ls [] (if (k_v (cK r0.toNatClampNeg)) = true then (if (k_y (cK r0.toNatClampNeg)) ≤ (0 : Int32) then (0 : Int32) else (2 : Int32)) else (1 : Int32)) ?_ (fun k_27 => ?_)
  · -- from 27 on
    exact e_pi S hr hlocks (rfl : f_R_usable cK r0 = if (k_v (cK r0.toNatClampNeg)) = true then (if (k_y (cK r0.toNatClampNeg)) ≤ (0 : Int32) then (0 : Int32) else (2 : Int32)) else (1 : Int32)).symm d_R_usable_27
  · -- to 27
    refine zb_ne (tgt := 13) hx hb d_R_usable_6 rfl (fun h_6 => ?_) (fun h_6 => ?_)
    · -- 6: taken
      refine lv_aload_n hx hb d_R_usable_13 rfl (lv_at hl 0 rfl) ?_
      refine r_get S hK hP 8 (by decide) fl_R_32 rfl d_R_usable_14 ?_
      refine lv_iload_n hx hb d_R_usable_17 rfl (lv_at hl 1 rfl) ?_
      refine r_ald_y S hK hP (by first | assumption | exact and7_in _) d_R_usable_18 ?_
      refine lv_if_le (tgt := 26) hx hb d_R_usable_19 rfl (fun h_19 => ?_) (fun h_19 => ?_)
      · -- 19: taken
        refine lv_iconst (v := (0 : Int32)) hx hb d_R_usable_26 (by decide) ?_
        exact k_27 _ ((if_pos h_6).trans ((if_pos h_19).trans (rfl)) : (if (k_v (cK r0.toNatClampNeg)) = true then (if (k_y (cK r0.toNatClampNeg)) ≤ (0 : Int32) then (0 : Int32) else (2 : Int32)) else (1 : Int32)) = (0 : Int32)).symm
      · -- 19: not taken
        refine lv_iconst (v := (2 : Int32)) hx hb d_R_usable_22 (by decide) ?_
        refine lv_goto (tgt := 27) hx hb d_R_usable_23 rfl ?_
        exact k_27 _ ((if_pos h_6).trans ((if_neg h_19).trans (rfl)) : (if (k_v (cK r0.toNatClampNeg)) = true then (if (k_y (cK r0.toNatClampNeg)) ≤ (0 : Int32) then (0 : Int32) else (2 : Int32)) else (1 : Int32)) = (2 : Int32)).symm
    · -- 6: not taken
      refine lv_iconst (v := (1 : Int32)) hx hb d_R_usable_9 (by decide) ?_
      refine lv_goto (tgt := 27) hx hb d_R_usable_10 rfl ?_
      exact k_27 _ ((if_neg (bn_f h_6)).trans (rfl) : (if (k_v (cK r0.toNatClampNeg)) = true then (if (k_y (cK r0.toNatClampNeg)) ≤ (0 : Int32) then (0 : Int32) else (2 : Int32)) else (1 : Int32)) = (1 : Int32)).symm
def f_R_loose (cK : Nat → Cp) (r0 : Int32) : Int32 :=
  if (k_v (cK r0.toNatClampNeg)) = true then (if (k_y (cK r0.toNatClampNeg)) ≤ (0 : Int32) then (0 : Int32) else (2 : Int32)) else (0 : Int32)
set_option maxHeartbeats 4000000 in
set_option maxRecDepth 100000 in
theorem c_R_loose (l : Launch) (D : va_G) (q : Nat → ClassId) (xa : Nat → Nat) (th : Int32) (ca : Int32) (st : Int32) (co : Int32) (ra : Int32) (rb : Int32) (rc : Int32) (im : Int32) (hf : Int32) (rz : Bool) (fM : Nat → Int32) (gT : Nat → Bool) (cK : Nat → Cp) (r0 : Int32) (hr0 : vp_in r0 12) : PMi l y_R_loose b_R_loose 2 (some .int) ({ frames := 0, cells := 0, slots := 0, locals := 0 }) [.ref (xa 0), .int r0] D (tyR q) (rW q xa th ca st co ra rb rc im hf rz fM gT cK) ((f_R_loose cK r0)) := by
  refine ofP (by decide) (Nat.le_of_ble_eq_true rfl) ?_
  intro p e s m below meth c ls S hr hlocks hK hN hP hl
  have hx := S.1
  have hb := S.2.1
  have hl : lv_has ls 2 [(0, .ref (xa 0)), (1, .int r0)] := hl
  refine lv_aload_n hx hb d_R_loose_0 rfl (lv_at hl 0 rfl) ?_
  refine r_get S hK hP 3 (by decide) fl_R_17 rfl d_R_loose_1 ?_
  refine lv_iload_n hx hb d_R_loose_4 rfl (lv_at hl 1 rfl) ?_
  refine r_ald_v S hK hP (by first | assumption | exact and7_in _) d_R_loose_5 ?_
  refine jn 23 ls [] (if (k_v (cK r0.toNatClampNeg)) = true then (if (k_y (cK r0.toNatClampNeg)) ≤ (0 : Int32) then (0 : Int32) else (2 : Int32)) else (0 : Int32)) ?_ (fun k_23 => ?_)
  · -- from 23 on
    exact e_pi S hr hlocks (rfl : f_R_loose cK r0 = if (k_v (cK r0.toNatClampNeg)) = true then (if (k_y (cK r0.toNatClampNeg)) ≤ (0 : Int32) then (0 : Int32) else (2 : Int32)) else (0 : Int32)).symm d_R_loose_23
  · -- to 23
    refine zb_eq (tgt := 22) hx hb d_R_loose_6 rfl (fun h_6 => ?_) (fun h_6 => ?_)
    · -- 6: taken
      refine lv_iconst (v := (0 : Int32)) hx hb d_R_loose_22 (by decide) ?_
      exact k_23 _ ((if_neg (bn_f h_6)).trans (rfl) : (if (k_v (cK r0.toNatClampNeg)) = true then (if (k_y (cK r0.toNatClampNeg)) ≤ (0 : Int32) then (0 : Int32) else (2 : Int32)) else (0 : Int32)) = (0 : Int32)).symm
    · -- 6: not taken
      refine lv_aload_n hx hb d_R_loose_9 rfl (lv_at hl 0 rfl) ?_
      refine r_get S hK hP 8 (by decide) fl_R_32 rfl d_R_loose_10 ?_
      refine lv_iload_n hx hb d_R_loose_13 rfl (lv_at hl 1 rfl) ?_
      refine r_ald_y S hK hP (by first | assumption | exact and7_in _) d_R_loose_14 ?_
      refine lv_if_le (tgt := 22) hx hb d_R_loose_15 rfl (fun h_15 => ?_) (fun h_15 => ?_)
      · -- 15: taken
        refine lv_iconst (v := (0 : Int32)) hx hb d_R_loose_22 (by decide) ?_
        exact k_23 _ ((if_pos h_6).trans ((if_pos h_15).trans (rfl)) : (if (k_v (cK r0.toNatClampNeg)) = true then (if (k_y (cK r0.toNatClampNeg)) ≤ (0 : Int32) then (0 : Int32) else (2 : Int32)) else (0 : Int32)) = (0 : Int32)).symm
      · -- 15: not taken
        refine lv_iconst (v := (2 : Int32)) hx hb d_R_loose_18 (by decide) ?_
        refine lv_goto (tgt := 23) hx hb d_R_loose_19 rfl ?_
        exact k_23 _ ((if_pos h_6).trans ((if_neg h_15).trans (rfl)) : (if (k_v (cK r0.toNatClampNeg)) = true then (if (k_y (cK r0.toNatClampNeg)) ≤ (0 : Int32) then (0 : Int32) else (2 : Int32)) else (0 : Int32)) = (2 : Int32)).symm
def f_R_allow (cK : Nat → Cp) (r0 : Int32) (xl : Int64) (nn : Int32) (wh : Int32) : Int32 :=
  if (f_R_usable cK r0) ≤ (0 : Int32) then (if (f_R_may cK r0 wh) = true then (if (lg_cmp xl ((k_b (cK r0.toNatClampNeg)).toInt64)) < (0 : Int32) then (4 : Int32)
      else if (lg_cmp (xl + nn.toInt64) (if (512 : Int32) ≤ (k_t (cK r0.toNatClampNeg)) then (512 : Int64) else ((k_t (cK r0.toNatClampNeg)).toInt64))) ≤ (0 : Int32) then (if (lg_cmp (xl - xl / nn.toInt64 * nn.toInt64) (0 : Int64)) = (0 : Int32) then (0 : Int32) else (5 : Int32))
      else (4 : Int32))
    else (3 : Int32))
  else (f_R_usable cK r0)
set_option maxHeartbeats 4000000 in
set_option maxRecDepth 100000 in
theorem c_R_allow (l : Launch) (D : va_G) (q : Nat → ClassId) (xa : Nat → Nat) (th : Int32) (ca : Int32) (st : Int32) (co : Int32) (ra : Int32) (rb : Int32) (rc : Int32) (im : Int32) (hf : Int32) (rz : Bool) (fM : Nat → Int32) (gT : Nat → Bool) (cK : Nat → Cp) (r0 : Int32) (xl : Int64) (nn : Int32) (wh : Int32) (hr0 : vp_in r0 12) (hn0 : ¬ nn.toInt64 = 0) : PMi l y_R_allow b_R_allow 9 (some .int) ({ frames := 1, cells := 0, slots := 0, locals := 22 }) [.ref (xa 0), .int r0, .long xl, .int nn, .int wh] D (tyR q) (rW q xa th ca st co ra rb rc im hf rz fM gT cK) ((f_R_allow cK r0 xl nn wh)) := by
  refine ofP (by decide) (Nat.le_of_ble_eq_true rfl) ?_
  intro p e s m below meth c ls S hr hlocks hK hN hP hl
  have hx := S.1
  have hb := S.2.1
  have hl : lv_has ls 9 [(0, .ref (xa 0)), (1, .int r0), (2, .long xl), (4, .int nn), (5, .int wh)] := hl
  refine lv_aload_n hx hb d_R_allow_0 rfl (lv_at hl 0 rfl) ?_
  refine lv_iload_n hx hb d_R_allow_1 rfl (lv_at hl 1 rfl) ?_
  refine c_pV [] S (c_R_usable l _ _ _ _ _ _ _ _ _ _ _ _ _ _ _ _ r0 (by first | assumption | exact in_k rfl | decide)) mf_R_usable ml_R_47 hK hN hP 0 3 rfl rfl ⟨rfl, rfl, Nat.le_of_ble_eq_true rfl, Nat.le_of_ble_eq_true rfl⟩ rfl hl.1 rfl (Nat.le_of_ble_eq_true rfl) d_R_allow_2 ⟨Nat.zero_le _, Nat.zero_le _⟩ ?_
  refine lv_istore (lv' := [(6, .int _), (0, .ref _), (1, .int _), (2, .long _), (4, .int _), (5, .int _)]) hx hb d_R_allow_5 hl (by decide) rfl (fun ls hl => ?_)
  refine lv_iload hx hb d_R_allow_7 (lv_at hl 0 rfl) ?_
  refine lv_if_le (tgt := 15) hx hb d_R_allow_9 rfl (fun h_9 => ?_) (fun h_9 => ?_)
  · -- 9: taken
    refine lv_aload_n hx hb d_R_allow_15 rfl (lv_at hl 1 rfl) ?_
    refine lv_iload_n hx hb d_R_allow_16 rfl (lv_at hl 2 rfl) ?_
    refine lv_iload hx hb d_R_allow_17 (lv_at hl 5 rfl) ?_
    refine c_pV [] S (c_R_may l _ _ _ _ _ _ _ _ _ _ _ _ _ _ _ _ r0 wh (by first | assumption | exact in_k rfl | decide)) mf_R_may ml_R_51 hK hN hP 0 3 rfl rfl ⟨rfl, rfl, Nat.le_of_ble_eq_true rfl, Nat.le_of_ble_eq_true rfl⟩ rfl hl.1 rfl (Nat.le_of_ble_eq_true rfl) d_R_allow_19 ⟨Nat.zero_le _, Nat.zero_le _⟩ ?_
    refine zb_ne (tgt := 27) hx hb d_R_allow_22 rfl (fun h_22 => ?_) (fun h_22 => ?_)
    · -- 22: taken
      refine lv_aload_n hx hb d_R_allow_27 rfl (lv_at hl 1 rfl) ?_
      refine r_get S hK hP 5 (by decide) fl_R_23 rfl d_R_allow_28 ?_
      refine lv_iload_n hx hb d_R_allow_31 rfl (lv_at hl 2 rfl) ?_
      refine r_ald_t S hK hP (by first | assumption | exact and7_in _) d_R_allow_32 ?_
      refine lv_sipush (v := (512 : Int32)) hx hb d_R_allow_33 (by decide) ?_
      refine jl 52 ls [] (if (512 : Int32) ≤ (k_t (cK r0.toNatClampNeg)) then (512 : Int64) else ((k_t (cK r0.toNatClampNeg)).toInt64)) ?_ (fun k_52 => ?_)
      · -- from 52 on
        refine lv_lstore (lv' := [(7, .long _), (6, .int _), (0, .ref _), (1, .int _), (2, .long _), (4, .int _), (5, .int _)]) hx hb d_R_allow_52 hl (by decide) rfl (fun ls hl => ?_)
        refine lv_lload_n hx hb d_R_allow_54 rfl (lv_at hl 4 rfl) ?_
        refine lv_aload_n hx hb d_R_allow_55 rfl (lv_at hl 2 rfl) ?_
        refine r_get S hK hP 4 (by decide) fl_R_20 rfl d_R_allow_56 ?_
        refine lv_iload_n hx hb d_R_allow_59 rfl (lv_at hl 3 rfl) ?_
        refine r_ald_b S hK hP (by first | assumption | exact and7_in _) d_R_allow_60 ?_
        refine lv_i2l (v := (k_b (cK r0.toNatClampNeg)).toInt64) hx hb d_R_allow_61 rfl ?_
        refine W.lcmp hx hb d_R_allow_62 ?_
        refine lv_if_lt (tgt := 77) hx hb d_R_allow_63 rfl (fun h_63 => ?_) (fun h_63 => ?_)
        · -- 63: taken
          refine lv_iconst (v := (4 : Int32)) hx hb d_R_allow_77 (by decide) ?_
          exact e_pi S hr hlocks ((if_pos h_9).trans ((if_pos h_22).trans ((if_pos h_63).trans (rfl))) : f_R_allow cK r0 xl nn wh = (4 : Int32)).symm d_R_allow_78
        · -- 63: not taken
          refine lv_lload_n hx hb d_R_allow_66 rfl (lv_at hl 4 rfl) ?_
          refine lv_iload hx hb d_R_allow_67 (lv_at hl 5 rfl) ?_
          refine lv_i2l (v := nn.toInt64) hx hb d_R_allow_69 rfl ?_
          refine lv_ladd hx hb d_R_allow_70 ?_
          refine lv_lload hx hb d_R_allow_71 (lv_at hl 0 rfl) ?_
          refine W.lcmp hx hb d_R_allow_73 ?_
          refine lv_if_le (tgt := 79) hx hb d_R_allow_74 rfl (fun h_74 => ?_) (fun h_74 => ?_)
          · -- 74: taken
            refine lv_lload_n hx hb d_R_allow_79 rfl (lv_at hl 4 rfl) ?_
            refine lv_iload hx hb d_R_allow_80 (lv_at hl 5 rfl) ?_
            refine lv_i2l (v := nn.toInt64) hx hb d_R_allow_82 rfl ?_
            refine lv_lrem hx hb d_R_allow_83 (by assumption) ?_
            refine lv_lconst (v := (0 : Int64)) hx hb d_R_allow_84 (by decide) ?_
            refine W.lcmp hx hb d_R_allow_85 ?_
            refine jn 94 ls [] (if (lg_cmp (xl - xl / nn.toInt64 * nn.toInt64) (0 : Int64)) = (0 : Int32) then (0 : Int32) else (5 : Int32)) ?_ (fun k_94 => ?_)
            · -- from 94 on
              exact e_pi S hr hlocks ((if_pos h_9).trans ((if_pos h_22).trans ((if_neg h_63).trans ((if_pos h_74).trans (rfl)))) : f_R_allow cK r0 xl nn wh = if (lg_cmp (xl - xl / nn.toInt64 * nn.toInt64) (0 : Int64)) = (0 : Int32) then (0 : Int32) else (5 : Int32)).symm d_R_allow_94
            · -- to 94
              refine lv_if_ne (tgt := 93) hx hb d_R_allow_86 rfl (fun h_86 => ?_) (fun h_86 => ?_)
              · -- 86: taken
                refine lv_iconst (v := (5 : Int32)) hx hb d_R_allow_93 (by decide) ?_
                exact k_94 _ ((if_neg h_86).trans (rfl) : (if (lg_cmp (xl - xl / nn.toInt64 * nn.toInt64) (0 : Int64)) = (0 : Int32) then (0 : Int32) else (5 : Int32)) = (5 : Int32)).symm
              · -- 86: not taken
                refine lv_iconst (v := (0 : Int32)) hx hb d_R_allow_89 (by decide) ?_
                refine lv_goto (tgt := 94) hx hb d_R_allow_90 rfl ?_
                exact k_94 _ ((if_pos h_86).trans (rfl) : (if (lg_cmp (xl - xl / nn.toInt64 * nn.toInt64) (0 : Int64)) = (0 : Int32) then (0 : Int32) else (5 : Int32)) = (0 : Int32)).symm
          · -- 74: not taken
            refine lv_iconst (v := (4 : Int32)) hx hb d_R_allow_77 (by decide) ?_
            exact e_pi S hr hlocks ((if_pos h_9).trans ((if_pos h_22).trans ((if_neg h_63).trans ((if_neg h_74).trans (rfl)))) : f_R_allow cK r0 xl nn wh = (4 : Int32)).symm d_R_allow_78
      · -- to 52
        refine lv_icmp_ge (tgt := 49) hx hb d_R_allow_36 rfl (fun h_36 => ?_) (fun h_36 => ?_)
        · -- 36: taken
          refine lv_ldc2 (v := (512 : Int64)) hx hb S.2.2.2.1 (S.2.2.2.2 _ kl_R_55) d_R_allow_49 ?_
          exact k_52 _ ((if_pos h_36).trans (rfl) : (if (512 : Int32) ≤ (k_t (cK r0.toNatClampNeg)) then (512 : Int64) else ((k_t (cK r0.toNatClampNeg)).toInt64)) = (512 : Int64)).symm
        · -- 36: not taken
          refine lv_aload_n hx hb d_R_allow_39 rfl (lv_at hl 1 rfl) ?_
          refine r_get S hK hP 5 (by decide) fl_R_23 rfl d_R_allow_40 ?_
          refine lv_iload_n hx hb d_R_allow_43 rfl (lv_at hl 2 rfl) ?_
          refine r_ald_t S hK hP (by first | assumption | exact and7_in _) d_R_allow_44 ?_
          refine lv_i2l (v := (k_t (cK r0.toNatClampNeg)).toInt64) hx hb d_R_allow_45 rfl ?_
          refine lv_goto (tgt := 52) hx hb d_R_allow_46 rfl ?_
          exact k_52 _ ((if_neg h_36).trans (rfl) : (if (512 : Int32) ≤ (k_t (cK r0.toNatClampNeg)) then (512 : Int64) else ((k_t (cK r0.toNatClampNeg)).toInt64)) = (k_t (cK r0.toNatClampNeg)).toInt64).symm
    · -- 22: not taken
      refine lv_iconst (v := (3 : Int32)) hx hb d_R_allow_25 (by decide) ?_
      exact e_pi S hr hlocks ((if_pos h_9).trans ((if_neg (bn_f h_22)).trans (rfl)) : f_R_allow cK r0 xl nn wh = (3 : Int32)).symm d_R_allow_26
  · -- 9: not taken
    refine lv_iload hx hb d_R_allow_12 (lv_at hl 0 rfl) ?_
    exact e_pi S hr hlocks ((if_neg h_9).trans (rfl) : f_R_allow cK r0 xl nn wh = (f_R_usable cK r0)).symm d_R_allow_14
def f_R_exact (lw : Int32) (hg : Int32) : Bool :=
  if (hg - lw) ≤ (64 : Int32) then true else (if (lw - lw / (8 : Int32) * (8 : Int32)) = (0 : Int32) then (if (hg - hg / (8 : Int32) * (8 : Int32)) = (0 : Int32) then true else false) else false)
set_option maxHeartbeats 4000000 in
set_option maxRecDepth 100000 in
theorem c_R_exact (l : Launch) (D : va_G) (q : Nat → ClassId) (xa : Nat → Nat) (th : Int32) (ca : Int32) (st : Int32) (co : Int32) (ra : Int32) (rb : Int32) (rc : Int32) (im : Int32) (hf : Int32) (rz : Bool) (fM : Nat → Int32) (gT : Nat → Bool) (cK : Nat → Cp) (lw : Int32) (hg : Int32) : PMi l y_R_exact b_R_exact 3 (some .boolean) ({ frames := 0, cells := 0, slots := 0, locals := 0 }) [.ref (xa 0), .int lw, .int hg] D (tyR q) (rW q xa th ca st co ra rb rc im hf rz fM gT cK) (b2i (f_R_exact lw hg)) := by
  refine ofP (by decide) (Nat.le_of_ble_eq_true rfl) ?_
  intro p e s m below meth c ls S hr hlocks hK hN hP hl
  have hx := S.1
  have hb := S.2.1
  have hl : lv_has ls 3 [(0, .ref (xa 0)), (1, .int lw), (2, .int hg)] := hl
  refine lv_iload_n hx hb d_R_exact_0 rfl (lv_at hl 2 rfl) ?_
  refine lv_iload_n hx hb d_R_exact_1 rfl (lv_at hl 1 rfl) ?_
  refine lv_isub hx hb d_R_exact_2 ?_
  refine lv_bipush (v := (64 : Int32)) hx hb d_R_exact_3 (by decide) ?_
  refine jn 27 ls [] (b2i (if (hg - lw) ≤ (64 : Int32) then true else (if (lw - lw / (8 : Int32) * (8 : Int32)) = (0 : Int32) then (if (hg - hg / (8 : Int32) * (8 : Int32)) = (0 : Int32) then true else false) else false))) ?_ (fun k_27 => ?_)
  · -- from 27 on
    exact e_pz (z := if (hg - lw) ≤ (64 : Int32) then true else (if (lw - lw / (8 : Int32) * (8 : Int32)) = (0 : Int32) then (if (hg - hg / (8 : Int32) * (8 : Int32)) = (0 : Int32) then true else false) else false)) S hr hlocks (congrArg b2i (rfl : f_R_exact lw hg = if (hg - lw) ≤ (64 : Int32) then true else (if (lw - lw / (8 : Int32) * (8 : Int32)) = (0 : Int32) then (if (hg - hg / (8 : Int32) * (8 : Int32)) = (0 : Int32) then true else false) else false)).symm) d_R_exact_27
  · -- to 27
    refine lv_icmp_le (tgt := 22) hx hb d_R_exact_5 rfl (fun h_5 => ?_) (fun h_5 => ?_)
    · -- 5: taken
      refine lv_iconst (v := (1 : Int32)) hx hb d_R_exact_22 (by decide) ?_
      refine lv_goto (tgt := 27) hx hb d_R_exact_23 rfl ?_
      exact k_27 _ (congrArg b2i ((if_pos h_5).trans (rfl) : (if (hg - lw) ≤ (64 : Int32) then true else (if (lw - lw / (8 : Int32) * (8 : Int32)) = (0 : Int32) then (if (hg - hg / (8 : Int32) * (8 : Int32)) = (0 : Int32) then true else false) else false)) = true).symm)
    · -- 5: not taken
      refine lv_iload_n hx hb d_R_exact_8 rfl (lv_at hl 1 rfl) ?_
      refine lv_bipush (v := (8 : Int32)) hx hb d_R_exact_9 (by decide) ?_
      refine lv_irem hx hb d_R_exact_11 (by decide) ?_
      refine lv_if_ne (tgt := 26) hx hb d_R_exact_12 rfl (fun h_12 => ?_) (fun h_12 => ?_)
      · -- 12: taken
        refine lv_iconst (v := (0 : Int32)) hx hb d_R_exact_26 (by decide) ?_
        exact k_27 _ (congrArg b2i ((if_neg h_5).trans ((if_neg h_12).trans (rfl)) : (if (hg - lw) ≤ (64 : Int32) then true else (if (lw - lw / (8 : Int32) * (8 : Int32)) = (0 : Int32) then (if (hg - hg / (8 : Int32) * (8 : Int32)) = (0 : Int32) then true else false) else false)) = false).symm)
      · -- 12: not taken
        refine lv_iload_n hx hb d_R_exact_15 rfl (lv_at hl 2 rfl) ?_
        refine lv_bipush (v := (8 : Int32)) hx hb d_R_exact_16 (by decide) ?_
        refine lv_irem hx hb d_R_exact_18 (by decide) ?_
        refine lv_if_ne (tgt := 26) hx hb d_R_exact_19 rfl (fun h_19 => ?_) (fun h_19 => ?_)
        · -- 19: taken
          refine lv_iconst (v := (0 : Int32)) hx hb d_R_exact_26 (by decide) ?_
          exact k_27 _ (congrArg b2i ((if_neg h_5).trans ((if_pos h_12).trans ((if_neg h_19).trans (rfl))) : (if (hg - lw) ≤ (64 : Int32) then true else (if (lw - lw / (8 : Int32) * (8 : Int32)) = (0 : Int32) then (if (hg - hg / (8 : Int32) * (8 : Int32)) = (0 : Int32) then true else false) else false)) = false).symm)
        · -- 19: not taken
          refine lv_iconst (v := (1 : Int32)) hx hb d_R_exact_22 (by decide) ?_
          refine lv_goto (tgt := 27) hx hb d_R_exact_23 rfl ?_
          exact k_27 _ (congrArg b2i ((if_neg h_5).trans ((if_pos h_12).trans ((if_pos h_19).trans (rfl))) : (if (hg - lw) ≤ (64 : Int32) then true else (if (lw - lw / (8 : Int32) * (8 : Int32)) = (0 : Int32) then (if (hg - hg / (8 : Int32) * (8 : Int32)) = (0 : Int32) then true else false) else false)) = true).symm)
def f_R_down (xx : Int32) : Int32 :=
  xx - (xx - xx / (8 : Int32) * (8 : Int32))
set_option maxHeartbeats 4000000 in
set_option maxRecDepth 100000 in
theorem c_R_down (l : Launch) (D : va_G) (q : Nat → ClassId) (xa : Nat → Nat) (th : Int32) (ca : Int32) (st : Int32) (co : Int32) (ra : Int32) (rb : Int32) (rc : Int32) (im : Int32) (hf : Int32) (rz : Bool) (fM : Nat → Int32) (gT : Nat → Bool) (cK : Nat → Cp) (xx : Int32) : PMi l y_R_down b_R_down 2 (some .int) ({ frames := 0, cells := 0, slots := 0, locals := 0 }) [.ref (xa 0), .int xx] D (tyR q) (rW q xa th ca st co ra rb rc im hf rz fM gT cK) ((f_R_down xx)) := by
  refine ofP (by decide) (Nat.le_of_ble_eq_true rfl) ?_
  intro p e s m below meth c ls S hr hlocks hK hN hP hl
  have hx := S.1
  have hb := S.2.1
  have hl : lv_has ls 2 [(0, .ref (xa 0)), (1, .int xx)] := hl
  refine lv_iload_n hx hb d_R_down_0 rfl (lv_at hl 1 rfl) ?_
  refine lv_iload_n hx hb d_R_down_1 rfl (lv_at hl 1 rfl) ?_
  refine lv_bipush (v := (8 : Int32)) hx hb d_R_down_2 (by decide) ?_
  refine lv_irem hx hb d_R_down_4 (by decide) ?_
  refine lv_isub hx hb d_R_down_5 ?_
  exact e_pi S hr hlocks (rfl : f_R_down xx = xx - (xx - xx / (8 : Int32) * (8 : Int32))).symm d_R_down_6
def f_R_up (xx : Int32) : Int32 :=
  if (xx - xx / (8 : Int32) * (8 : Int32)) = (0 : Int32) then xx else ((xx + (8 : Int32)) - (xx - xx / (8 : Int32) * (8 : Int32)))
set_option maxHeartbeats 4000000 in
set_option maxRecDepth 100000 in
theorem c_R_up (l : Launch) (D : va_G) (q : Nat → ClassId) (xa : Nat → Nat) (th : Int32) (ca : Int32) (st : Int32) (co : Int32) (ra : Int32) (rb : Int32) (rc : Int32) (im : Int32) (hf : Int32) (rz : Bool) (fM : Nat → Int32) (gT : Nat → Bool) (cK : Nat → Cp) (xx : Int32) : PMi l y_R_up b_R_up 2 (some .int) ({ frames := 0, cells := 0, slots := 0, locals := 0 }) [.ref (xa 0), .int xx] D (tyR q) (rW q xa th ca st co ra rb rc im hf rz fM gT cK) ((f_R_up xx)) := by
  refine ofP (by decide) (Nat.le_of_ble_eq_true rfl) ?_
  intro p e s m below meth c ls S hr hlocks hK hN hP hl
  have hx := S.1
  have hb := S.2.1
  have hl : lv_has ls 2 [(0, .ref (xa 0)), (1, .int xx)] := hl
  refine lv_iload_n hx hb d_R_up_0 rfl (lv_at hl 1 rfl) ?_
  refine lv_bipush (v := (8 : Int32)) hx hb d_R_up_1 (by decide) ?_
  refine lv_irem hx hb d_R_up_3 (by decide) ?_
  refine jn 20 ls [] (if (xx - xx / (8 : Int32) * (8 : Int32)) = (0 : Int32) then xx else ((xx + (8 : Int32)) - (xx - xx / (8 : Int32) * (8 : Int32)))) ?_ (fun k_20 => ?_)
  · -- from 20 on
    exact e_pi S hr hlocks (rfl : f_R_up xx = if (xx - xx / (8 : Int32) * (8 : Int32)) = (0 : Int32) then xx else ((xx + (8 : Int32)) - (xx - xx / (8 : Int32) * (8 : Int32)))).symm d_R_up_20
  · -- to 20
    refine lv_if_ne (tgt := 11) hx hb d_R_up_4 rfl (fun h_4 => ?_) (fun h_4 => ?_)
    · -- 4: taken
      refine lv_iload_n hx hb d_R_up_11 rfl (lv_at hl 1 rfl) ?_
      refine lv_bipush (v := (8 : Int32)) hx hb d_R_up_12 (by decide) ?_
      refine lv_iadd hx hb d_R_up_14 ?_
      refine lv_iload_n hx hb d_R_up_15 rfl (lv_at hl 1 rfl) ?_
      refine lv_bipush (v := (8 : Int32)) hx hb d_R_up_16 (by decide) ?_
      refine lv_irem hx hb d_R_up_18 (by decide) ?_
      refine lv_isub hx hb d_R_up_19 ?_
      exact k_20 _ ((if_neg h_4).trans (rfl) : (if (xx - xx / (8 : Int32) * (8 : Int32)) = (0 : Int32) then xx else ((xx + (8 : Int32)) - (xx - xx / (8 : Int32) * (8 : Int32)))) = (xx + (8 : Int32)) - (xx - xx / (8 : Int32) * (8 : Int32))).symm
    · -- 4: not taken
      refine lv_iload_n hx hb d_R_up_7 rfl (lv_at hl 1 rfl) ?_
      refine lv_goto (tgt := 20) hx hb d_R_up_8 rfl ?_
      exact k_20 _ ((if_pos h_4).trans (rfl) : (if (xx - xx / (8 : Int32) * (8 : Int32)) = (0 : Int32) then xx else ((xx + (8 : Int32)) - (xx - xx / (8 : Int32) * (8 : Int32)))) = xx).symm
def f_R_size (co : Int32) : Int32 :=
  if co = (17 : Int32) then (1 : Int32) else (if co = (20 : Int32) then (1 : Int32) else (if co = (18 : Int32) then (4 : Int32) else (if co = (21 : Int32) then (4 : Int32) else (8 : Int32))))
set_option maxHeartbeats 4000000 in
set_option maxRecDepth 100000 in
theorem c_R_size (l : Launch) (D : va_G) (q : Nat → ClassId) (xa : Nat → Nat) (th : Int32) (ca : Int32) (st : Int32) (co : Int32) (ra : Int32) (rb : Int32) (rc : Int32) (im : Int32) (hf : Int32) (rz : Bool) (fM : Nat → Int32) (gT : Nat → Bool) (cK : Nat → Cp) : PMi l y_R_size b_R_size 1 (some .int) ({ frames := 0, cells := 0, slots := 0, locals := 0 }) [.ref (xa 0)] D (tyR q) (rW q xa th ca st co ra rb rc im hf rz fM gT cK) ((f_R_size co)) := by
  refine ofP (by decide) (Nat.le_of_ble_eq_true rfl) ?_
  intro p e s m below meth c ls S hr hlocks hK hN hP hl
  have hx := S.1
  have hb := S.2.1
  have hl : lv_has ls 1 [(0, .ref (xa 0))] := hl
  refine lv_aload_n hx hb d_R_size_0 rfl (lv_at hl 0 rfl) ?_
  refine r_get S hK hP 11 (by decide) fl_R_72 rfl d_R_size_1 ?_
  refine lv_bipush (v := (17 : Int32)) hx hb d_R_size_4 (by decide) ?_
  refine jn 46 ls [] (if co = (17 : Int32) then (1 : Int32) else (if co = (20 : Int32) then (1 : Int32) else (if co = (18 : Int32) then (4 : Int32) else (if co = (21 : Int32) then (4 : Int32) else (8 : Int32))))) ?_ (fun k_46 => ?_)
  · -- from 46 on
    exact e_pi S hr hlocks (rfl : f_R_size co = if co = (17 : Int32) then (1 : Int32) else (if co = (20 : Int32) then (1 : Int32) else (if co = (18 : Int32) then (4 : Int32) else (if co = (21 : Int32) then (4 : Int32) else (8 : Int32))))).symm d_R_size_46
  · -- to 46
    refine lv_icmp_eq (tgt := 18) hx hb d_R_size_6 rfl (fun h_6 => ?_) (fun h_6 => ?_)
    · -- 6: taken
      refine lv_iconst (v := (1 : Int32)) hx hb d_R_size_18 (by decide) ?_
      refine lv_goto (tgt := 46) hx hb d_R_size_19 rfl ?_
      exact k_46 _ ((if_pos h_6).trans (rfl) : (if co = (17 : Int32) then (1 : Int32) else (if co = (20 : Int32) then (1 : Int32) else (if co = (18 : Int32) then (4 : Int32) else (if co = (21 : Int32) then (4 : Int32) else (8 : Int32))))) = (1 : Int32)).symm
    · -- 6: not taken
      refine lv_aload_n hx hb d_R_size_9 rfl (lv_at hl 0 rfl) ?_
      refine r_get S hK hP 11 (by decide) fl_R_72 rfl d_R_size_10 ?_
      refine lv_bipush (v := (20 : Int32)) hx hb d_R_size_13 (by decide) ?_
      refine lv_icmp_ne (tgt := 22) hx hb d_R_size_15 rfl (fun h_15 => ?_) (fun h_15 => ?_)
      · -- 15: taken
        refine lv_aload_n hx hb d_R_size_22 rfl (lv_at hl 0 rfl) ?_
        refine r_get S hK hP 11 (by decide) fl_R_72 rfl d_R_size_23 ?_
        refine lv_bipush (v := (18 : Int32)) hx hb d_R_size_26 (by decide) ?_
        refine lv_icmp_eq (tgt := 40) hx hb d_R_size_28 rfl (fun h_28 => ?_) (fun h_28 => ?_)
        · -- 28: taken
          refine lv_iconst (v := (4 : Int32)) hx hb d_R_size_40 (by decide) ?_
          refine lv_goto (tgt := 46) hx hb d_R_size_41 rfl ?_
          exact k_46 _ ((if_neg h_6).trans ((if_neg h_15).trans ((if_pos h_28).trans (rfl))) : (if co = (17 : Int32) then (1 : Int32) else (if co = (20 : Int32) then (1 : Int32) else (if co = (18 : Int32) then (4 : Int32) else (if co = (21 : Int32) then (4 : Int32) else (8 : Int32))))) = (4 : Int32)).symm
        · -- 28: not taken
          refine lv_aload_n hx hb d_R_size_31 rfl (lv_at hl 0 rfl) ?_
          refine r_get S hK hP 11 (by decide) fl_R_72 rfl d_R_size_32 ?_
          refine lv_bipush (v := (21 : Int32)) hx hb d_R_size_35 (by decide) ?_
          refine lv_icmp_ne (tgt := 44) hx hb d_R_size_37 rfl (fun h_37 => ?_) (fun h_37 => ?_)
          · -- 37: taken
            refine lv_bipush (v := (8 : Int32)) hx hb d_R_size_44 (by decide) ?_
            exact k_46 _ ((if_neg h_6).trans ((if_neg h_15).trans ((if_neg h_28).trans ((if_neg h_37).trans (rfl)))) : (if co = (17 : Int32) then (1 : Int32) else (if co = (20 : Int32) then (1 : Int32) else (if co = (18 : Int32) then (4 : Int32) else (if co = (21 : Int32) then (4 : Int32) else (8 : Int32))))) = (8 : Int32)).symm
          · -- 37: not taken
            refine lv_iconst (v := (4 : Int32)) hx hb d_R_size_40 (by decide) ?_
            refine lv_goto (tgt := 46) hx hb d_R_size_41 rfl ?_
            exact k_46 _ ((if_neg h_6).trans ((if_neg h_15).trans ((if_neg h_28).trans ((if_pos h_37).trans (rfl)))) : (if co = (17 : Int32) then (1 : Int32) else (if co = (20 : Int32) then (1 : Int32) else (if co = (18 : Int32) then (4 : Int32) else (if co = (21 : Int32) then (4 : Int32) else (8 : Int32))))) = (4 : Int32)).symm
      · -- 15: not taken
        refine lv_iconst (v := (1 : Int32)) hx hb d_R_size_18 (by decide) ?_
        refine lv_goto (tgt := 46) hx hb d_R_size_19 rfl ?_
        exact k_46 _ ((if_neg h_6).trans ((if_pos h_15).trans (rfl)) : (if co = (17 : Int32) then (1 : Int32) else (if co = (20 : Int32) then (1 : Int32) else (if co = (18 : Int32) then (4 : Int32) else (if co = (21 : Int32) then (4 : Int32) else (8 : Int32))))) = (1 : Int32)).symm
