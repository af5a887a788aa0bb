def f_R_fetch (fM : Nat → Int32) (xt : Int32) : Int32 × Int32 × Int32 × Int32 × Int32 × Int32 :=
  (fM xt.toNatClampNeg, (fM ((xt + (1 : Int32)).toNatClampNeg)) - (fM ((xt + (1 : Int32)).toNatClampNeg)) / (8 : Int32) * (8 : Int32), (fM ((xt + (2 : Int32)).toNatClampNeg)) - (fM ((xt + (2 : Int32)).toNatClampNeg)) / (8 : Int32) * (8 : Int32), (fM ((xt + (3 : Int32)).toNatClampNeg)) - (fM ((xt + (3 : Int32)).toNatClampNeg)) / (8 : Int32) * (8 : Int32), if (128 : Int32) ≤ (fM ((xt + (3 : Int32)).toNatClampNeg)) then ((fM ((xt + (3 : Int32)).toNatClampNeg)) - (256 : Int32)) else (fM ((xt + (3 : Int32)).toNatClampNeg)), ((256 : Int32) * (fM ((xt + (2 : Int32)).toNatClampNeg))) + (fM ((xt + (3 : Int32)).toNatClampNeg)))
set_option maxHeartbeats 4000000 in
set_option maxRecDepth 100000 in
theorem c_R_fetch (l : Launch) (D : va_G) (q : Nat → ClassId) (xa : Nat → Nat) (th : Int32) (ca : Int32) (st : Int32) (co : Int32) (ra : Int32) (rb : Int32) (rc : Int32) (im : Int32) (hf : Int32) (rz : Bool) (fM : Nat → Int32) (gT : Nat → Bool) (cK : Nat → Cp) (A : Nat → Prop) (hD : va_D A (rW q xa th ca st co ra rb rc im hf rz fM gT cK)) (xt : Int32) (h : Ar xt 4) : WMv l y_R_fetch b_R_fetch 2 none ({ frames := 0, cells := 0, slots := 0, locals := 0 }) [.ref (xa 0), .int xt] D (tyR q) (rW q xa th ca st co ra rb rc im hf rz fM gT cK) (rW q xa th ca st ((f_R_fetch fM xt).1) ((f_R_fetch fM xt).2.1) ((f_R_fetch fM xt).2.2.1) ((f_R_fetch fM xt).2.2.2.1) ((f_R_fetch fM xt).2.2.2.2.1) ((f_R_fetch fM xt).2.2.2.2.2) rz fM gT cK) A := by
  refine ofV (by decide) (Nat.le_of_ble_eq_true rfl) ?_
  intro p e s m below meth c ls S hr hlocks hK hN hP hl
  have hx := S.1
  have hb := S.2.1
  have hS : va_S A s.heap s.heap [] := va_S.rf
  have hl : lv_has ls 2 [(0, .ref (xa 0)), (1, .int xt)] := hl
  have h0 := h.i0 (by decide)
  have h1 := h.i1 (by decide)
  have h2 := h.i2 (by decide)
  have h3 := h.i3 (by decide)
  refine lv_aload_n hx hb d_R_fetch_0 rfl (lv_at hl 0 rfl) ?_
  refine lv_aload_n hx hb d_R_fetch_1 rfl (lv_at hl 0 rfl) ?_
  refine r_get S hK hP 1 (by decide) fl_R_7 rfl d_R_fetch_2 ?_
  refine lv_iload_n hx hb d_R_fetch_5 rfl (lv_at hl 1 rfl) ?_
  refine r_ald_mem S hK hP (by first | assumption | exact and7_in _) d_R_fetch_6 ?_
  refine r_put_co S hK hP (rW_D hD) hS fl_R_72 d_R_fetch_7 (fun H locs hP hS => ?_)
  refine lv_aload_n hx hb d_R_fetch_10 rfl (lv_at hl 0 rfl) ?_
  refine lv_aload_n hx hb d_R_fetch_11 rfl (lv_at hl 0 rfl) ?_
  refine r_get S hK hP 1 (by decide) fl_R_7 rfl d_R_fetch_12 ?_
  refine lv_iload_n hx hb d_R_fetch_15 rfl (lv_at hl 1 rfl) ?_
  refine lv_iconst (v := (1 : Int32)) hx hb d_R_fetch_16 (by decide) ?_
  refine lv_iadd hx hb d_R_fetch_17 ?_
  refine r_ald_mem S hK hP (by first | assumption | exact and7_in _) d_R_fetch_18 ?_
  refine lv_bipush (v := (8 : Int32)) hx hb d_R_fetch_19 (by decide) ?_
  refine lv_irem hx hb d_R_fetch_21 (by decide) ?_
  refine r_put_ra S hK hP (rW_D hD) hS fl_R_79 d_R_fetch_22 (fun H locs hP hS => ?_)
  refine lv_aload_n hx hb d_R_fetch_25 rfl (lv_at hl 0 rfl) ?_
  refine lv_aload_n hx hb d_R_fetch_26 rfl (lv_at hl 0 rfl) ?_
  refine r_get S hK hP 1 (by decide) fl_R_7 rfl d_R_fetch_27 ?_
  refine lv_iload_n hx hb d_R_fetch_30 rfl (lv_at hl 1 rfl) ?_
  refine lv_iconst (v := (2 : Int32)) hx hb d_R_fetch_31 (by decide) ?_
  refine lv_iadd hx hb d_R_fetch_32 ?_
  refine r_ald_mem S hK hP (by first | assumption | exact and7_in _) d_R_fetch_33 ?_
  refine lv_bipush (v := (8 : Int32)) hx hb d_R_fetch_34 (by decide) ?_
  refine lv_irem hx hb d_R_fetch_36 (by decide) ?_
  refine r_put_rb S hK hP (rW_D hD) hS fl_R_57 d_R_fetch_37 (fun H locs hP hS => ?_)
  refine lv_aload_n hx hb d_R_fetch_40 rfl (lv_at hl 0 rfl) ?_
  refine lv_aload_n hx hb d_R_fetch_41 rfl (lv_at hl 0 rfl) ?_
  refine r_get S hK hP 1 (by decide) fl_R_7 rfl d_R_fetch_42 ?_
  refine lv_iload_n hx hb d_R_fetch_45 rfl (lv_at hl 1 rfl) ?_
  refine lv_iconst (v := (3 : Int32)) hx hb d_R_fetch_46 (by decide) ?_
  refine lv_iadd hx hb d_R_fetch_47 ?_
  refine r_ald_mem S hK hP (by first | assumption | exact and7_in _) d_R_fetch_48 ?_
  refine lv_bipush (v := (8 : Int32)) hx hb d_R_fetch_49 (by decide) ?_
  refine lv_irem hx hb d_R_fetch_51 (by decide) ?_
  refine r_put_rc S hK hP (rW_D hD) hS fl_R_60 d_R_fetch_52 (fun H locs hP hS => ?_)
  refine lv_aload_n hx hb d_R_fetch_55 rfl (lv_at hl 0 rfl) ?_
  refine lv_aload_n hx hb d_R_fetch_56 rfl (lv_at hl 0 rfl) ?_
  refine r_get S hK hP 1 (by decide) fl_R_7 rfl d_R_fetch_57 ?_
  refine lv_iload_n hx hb d_R_fetch_60 rfl (lv_at hl 1 rfl) ?_
  refine lv_iconst (v := (3 : Int32)) hx hb d_R_fetch_61 (by decide) ?_
  refine lv_iadd hx hb d_R_fetch_62 ?_
  refine r_ald_mem S hK hP (by first | assumption | exact and7_in _) d_R_fetch_63 ?_
  refine lv_sipush (v := (128 : Int32)) hx hb d_R_fetch_64 (by decide) ?_
  refine jn 93 ls [.ref (xa 0)] (if (128 : Int32) ≤ (fM ((xt + (3 : Int32)).toNatClampNeg)) then ((fM ((xt + (3 : Int32)).toNatClampNeg)) - (256 : Int32)) else (fM ((xt + (3 : Int32)).toNatClampNeg))) ?_ (fun k_93 => ?_)
  · -- from 93 on
    refine r_put_im S hK hP (rW_D hD) hS fl_R_82 d_R_fetch_93 (fun H locs hP hS => ?_)
    refine lv_aload_n hx hb d_R_fetch_96 rfl (lv_at hl 0 rfl) ?_
    refine lv_sipush (v := (256 : Int32)) hx hb d_R_fetch_97 (by decide) ?_
    refine lv_aload_n hx hb d_R_fetch_100 rfl (lv_at hl 0 rfl) ?_
    refine r_get S hK hP 1 (by decide) fl_R_7 rfl d_R_fetch_101 ?_
    refine lv_iload_n hx hb d_R_fetch_104 rfl (lv_at hl 1 rfl) ?_
    refine lv_iconst (v := (2 : Int32)) hx hb d_R_fetch_105 (by decide) ?_
    refine lv_iadd hx hb d_R_fetch_106 ?_
    refine r_ald_mem S hK hP (by first | assumption | exact and7_in _) d_R_fetch_107 ?_
    refine lv_imul hx hb d_R_fetch_108 ?_
    refine lv_aload_n hx hb d_R_fetch_109 rfl (lv_at hl 0 rfl) ?_
    refine r_get S hK hP 1 (by decide) fl_R_7 rfl d_R_fetch_110 ?_
    refine lv_iload_n hx hb d_R_fetch_113 rfl (lv_at hl 1 rfl) ?_
    refine lv_iconst (v := (3 : Int32)) hx hb d_R_fetch_114 (by decide) ?_
    refine lv_iadd hx hb d_R_fetch_115 ?_
    refine r_ald_mem S hK hP (by first | assumption | exact and7_in _) d_R_fetch_116 ?_
    refine lv_iadd hx hb d_R_fetch_117 ?_
    refine r_put_hf S hK hP (rW_D hD) hS fl_R_127 d_R_fetch_118 (fun H locs hP hS => ?_)
    have hF : f_R_fetch fM xt = (fM xt.toNatClampNeg, (fM ((xt + (1 : Int32)).toNatClampNeg)) - (fM ((xt + (1 : Int32)).toNatClampNeg)) / (8 : Int32) * (8 : Int32), (fM ((xt + (2 : Int32)).toNatClampNeg)) - (fM ((xt + (2 : Int32)).toNatClampNeg)) / (8 : Int32) * (8 : Int32), (fM ((xt + (3 : Int32)).toNatClampNeg)) - (fM ((xt + (3 : Int32)).toNatClampNeg)) / (8 : Int32) * (8 : Int32), if (128 : Int32) ≤ (fM ((xt + (3 : Int32)).toNatClampNeg)) then ((fM ((xt + (3 : Int32)).toNatClampNeg)) - (256 : Int32)) else (fM ((xt + (3 : Int32)).toNatClampNeg)), ((256 : Int32) * (fM ((xt + (2 : Int32)).toNatClampNeg))) + (fM ((xt + (3 : Int32)).toNatClampNeg))) := rfl
    exact e_wv S hr hlocks hP hS (congrArg (fun z => rW q xa th ca st z.1 z.2.1 z.2.2.1 z.2.2.2.1 z.2.2.2.2.1 z.2.2.2.2.2 rz fM gT cK) hF.symm) d_R_fetch_121
  · -- to 93
    refine lv_icmp_ge (tgt := 81) hx hb d_R_fetch_67 rfl (fun h_67 => ?_) (fun h_67 => ?_)
    · -- 67: taken
      refine lv_aload_n hx hb d_R_fetch_81 rfl (lv_at hl 0 rfl) ?_
      refine r_get S hK hP 1 (by decide) fl_R_7 rfl d_R_fetch_82 ?_
      refine lv_iload_n hx hb d_R_fetch_85 rfl (lv_at hl 1 rfl) ?_
      refine lv_iconst (v := (3 : Int32)) hx hb d_R_fetch_86 (by decide) ?_
      refine lv_iadd hx hb d_R_fetch_87 ?_
      refine r_ald_mem S hK hP (by first | assumption | exact and7_in _) d_R_fetch_88 ?_
      refine lv_sipush (v := (256 : Int32)) hx hb d_R_fetch_89 (by decide) ?_
      refine lv_isub hx hb d_R_fetch_92 ?_
      exact k_93 _ ((if_pos h_67).trans (rfl) : (if (128 : Int32) ≤ (fM ((xt + (3 : Int32)).toNatClampNeg)) then ((fM ((xt + (3 : Int32)).toNatClampNeg)) - (256 : Int32)) else (fM ((xt + (3 : Int32)).toNatClampNeg))) = (fM ((xt + (3 : Int32)).toNatClampNeg)) - (256 : Int32)).symm
    · -- 67: not taken
      refine lv_aload_n hx hb d_R_fetch_70 rfl (lv_at hl 0 rfl) ?_
      refine r_get S hK hP 1 (by decide) fl_R_7 rfl d_R_fetch_71 ?_
      refine lv_iload_n hx hb d_R_fetch_74 rfl (lv_at hl 1 rfl) ?_
      refine lv_iconst (v := (3 : Int32)) hx hb d_R_fetch_75 (by decide) ?_
      refine lv_iadd hx hb d_R_fetch_76 ?_
      refine r_ald_mem S hK hP (by first | assumption | exact and7_in _) d_R_fetch_77 ?_
      refine lv_goto (tgt := 93) hx hb d_R_fetch_78 rfl ?_
      exact k_93 _ ((if_neg h_67).trans (rfl) : (if (128 : Int32) ≤ (fM ((xt + (3 : Int32)).toNatClampNeg)) then ((fM ((xt + (3 : Int32)).toNatClampNeg)) - (256 : Int32)) else (fM ((xt + (3 : Int32)).toNatClampNeg))) = fM ((xt + (3 : Int32)).toNatClampNeg)).symm
