def f_R_access (co : Int32) (ra : Int32) (rb : Int32) (im : Int32) (fM : Nat → Int32) (gT : Nat → Bool) (cK : Nat → Cp) : (Nat → Int32) × (Nat → Bool) × (Nat → Cp) :=
  if co = (17 : Int32) then (fM, gT, (f_R_number cK ra (fM (((k_a (cK rb.toNatClampNeg)) + im).toNatClampNeg))))
  else if co = (18 : Int32) then (fM, gT, (f_R_number cK ra (f_R_word fM ((k_a (cK rb.toNatClampNeg)) + im))))
  else if co = (19 : Int32) then (fM, gT, (f_R_load ra fM gT cK ((k_a (cK rb.toNatClampNeg)) + im)))
  else if co = (22 : Int32) then ((f_R_store ((f_R_store fM gT ((k_a (cK rb.toNatClampNeg)) + im) (k_a (cK ra.toNatClampNeg)) (4 : Int32)).1) ((f_R_store fM gT ((k_a (cK rb.toNatClampNeg)) + im) (k_a (cK ra.toNatClampNeg)) (4 : Int32)).2) (((k_a (cK rb.toNatClampNeg)) + im) + (4 : Int32)) ((((k_b (cK ra.toNatClampNeg)) + ((1024 : Int32) * (k_t (cK ra.toNatClampNeg)))) + ((1048576 : Int32) * (k_y (cK ra.toNatClampNeg)))) + ((k_p (cK ra.toNatClampNeg)) <<< ((24 : Int32) &&& 31))) (4 : Int32)).1, va_up ((f_R_store ((f_R_store fM gT ((k_a (cK rb.toNatClampNeg)) + im) (k_a (cK ra.toNatClampNeg)) (4 : Int32)).1) ((f_R_store fM gT ((k_a (cK rb.toNatClampNeg)) + im) (k_a (cK ra.toNatClampNeg)) (4 : Int32)).2) (((k_a (cK rb.toNatClampNeg)) + im) + (4 : Int32)) ((((k_b (cK ra.toNatClampNeg)) + ((1024 : Int32) * (k_t (cK ra.toNatClampNeg)))) + ((1048576 : Int32) * (k_y (cK ra.toNatClampNeg)))) + ((k_p (cK ra.toNatClampNeg)) <<< ((24 : Int32) &&& 31))) (4 : Int32)).2) ((((k_a (cK rb.toNatClampNeg)) + im) / (8 : Int32)).toNatClampNeg) (k_v (cK ra.toNatClampNeg)), cK)
  else ((f_R_store fM gT ((k_a (cK rb.toNatClampNeg)) + im) (k_a (cK ra.toNatClampNeg)) (f_R_size co)).1, (f_R_store fM gT ((k_a (cK rb.toNatClampNeg)) + im) (k_a (cK ra.toNatClampNeg)) (f_R_size co)).2, cK)
set_option maxHeartbeats 4000000 in
set_option maxRecDepth 100000 in
theorem c_R_access (l : Launch) (D : va_G) (q : Nat → ClassId) (xa : Nat → Nat) (th : Int32) (ca : Int32) (st : Int32) (co : Int32) (ra : Int32) (rb : Int32) (rc : Int32) (im : Int32) (hf : Int32) (rz : Bool) (fM : Nat → Int32) (gT : Nat → Bool) (cK : Nat → Cp) (A : Nat → Prop) (hD : va_D A (rW q xa th ca st co ra rb rc im hf rz fM gT cK)) (hra : vp_in ra 12) (hrb : vp_in rb 12) (hq : As ((k_a (cK rb.toNatClampNeg)) + im) (f_R_size co)) : WMv l y_R_access b_R_access 2 none ({ frames := 2, cells := 0, slots := 0, locals := 48 }) [.ref (xa 0)] D (tyR q) (rW q xa th ca st co ra rb rc im hf rz fM gT cK) (rW q xa th ca st co ra rb rc im hf rz ((f_R_access co ra rb im fM gT cK).1) ((f_R_access co ra rb im fM gT cK).2.1) ((f_R_access co ra rb im fM gT cK).2.2)) A := by
  refine ofV (by decide) (Nat.le_of_ble_eq_true rfl) ?_
  intro p e s m below meth c ls S hr hlocks hK hN hP hl
  have hx := S.1
  have hb := S.2.1
  have hS : va_S A s.heap s.heap [] := va_S.rf
  have hl : lv_has ls 2 [(0, .ref (xa 0))] := hl
  refine lv_aload_n hx hb d_R_access_0 rfl (lv_at hl 0 rfl) ?_
  refine r_get S hK hP 6 (by decide) fl_R_26 rfl d_R_access_1 ?_
  refine lv_aload_n hx hb d_R_access_4 rfl (lv_at hl 0 rfl) ?_
  refine r_get S hK hP 13 (by decide) fl_R_57 rfl d_R_access_5 ?_
  refine r_ald_a S hK hP (by first | assumption | exact and7_in _) d_R_access_8 ?_
  refine lv_aload_n hx hb d_R_access_9 rfl (lv_at hl 0 rfl) ?_
  refine r_get S hK hP 15 (by decide) fl_R_82 rfl d_R_access_10 ?_
  refine lv_iadd hx hb d_R_access_13 ?_
  refine lv_istore_n (lv' := [(1, .int _), (0, .ref _)]) hx hb d_R_access_14 rfl hl (by decide) rfl (fun ls hl => ?_)
  refine lv_aload_n hx hb d_R_access_15 rfl (lv_at hl 1 rfl) ?_
  refine r_get S hK hP 11 (by decide) fl_R_72 rfl d_R_access_16 ?_
  by_cases h_19_17 : co = (17 : Int32)
  · -- 19: case 17
    refine t_in (17 : Int32) (off := 37) (tgt := 56) hx hb d_R_access_19 h_19_17 (by decide) (by decide) (by decide) rfl ?_
    have h0 : vp_in ((k_a (cK rb.toNatClampNeg)) + im) 512 := sz_17 hq h_19_17
    refine lv_aload_n hx hb d_R_access_56 rfl (lv_at hl 1 rfl) ?_
    refine lv_aload_n hx hb d_R_access_57 rfl (lv_at hl 1 rfl) ?_
    refine r_get S hK hP 12 (by decide) fl_R_79 rfl d_R_access_58 ?_
    refine lv_aload_n hx hb d_R_access_61 rfl (lv_at hl 1 rfl) ?_
    refine r_get S hK hP 1 (by decide) fl_R_7 rfl d_R_access_62 ?_
    refine lv_iload_n hx hb d_R_access_65 rfl (lv_at hl 0 rfl) ?_
    refine r_ald_mem S hK hP (by first | assumption | exact and7_in _) d_R_access_66 ?_
    refine c_vV [] S (c_R_number l _ _ _ _ _ _ _ _ _ _ _ _ _ _ _ _ A (rW_D hD) ra (fM (((k_a (cK rb.toNatClampNeg)) + im).toNatClampNeg)) (by first | assumption | exact in_k rfl | decide)) mf_R_number ml_R_114 hK hN hP hS 0 3 rfl rfl ⟨rfl, rfl, Nat.le_of_ble_eq_true rfl, Nat.le_of_ble_eq_true rfl⟩ rfl hl.1 rfl (Nat.le_of_ble_eq_true rfl) d_R_access_67 ⟨Nat.zero_le _, Nat.zero_le _⟩ (fun H locs hP hS => ?_)
    refine lv_goto (tgt := 208) hx hb d_R_access_70 rfl ?_
    have hF : f_R_access co ra rb im fM gT cK = (fM, gT, (f_R_number cK ra (fM (((k_a (cK rb.toNatClampNeg)) + im).toNatClampNeg)))) := (if_pos h_19_17).trans (rfl)
    exact e_wv S hr hlocks hP hS (congrArg (fun z => rW q xa th ca st co ra rb rc im hf rz z.1 z.2.1 z.2.2) hF.symm) d_R_access_208
  by_cases h_19_18 : co = (18 : Int32)
  · -- 19: case 18
    refine t_in (18 : Int32) (off := 54) (tgt := 73) hx hb d_R_access_19 h_19_18 (by decide) (by decide) (by decide) rfl ?_
    have h0 : Ar ((k_a (cK rb.toNatClampNeg)) + im) 4 := sz_18 hq h_19_18
    refine lv_aload_n hx hb d_R_access_73 rfl (lv_at hl 1 rfl) ?_
    refine lv_aload_n hx hb d_R_access_74 rfl (lv_at hl 1 rfl) ?_
    refine r_get S hK hP 12 (by decide) fl_R_79 rfl d_R_access_75 ?_
    refine lv_aload_n hx hb d_R_access_78 rfl (lv_at hl 1 rfl) ?_
    refine lv_iload_n hx hb d_R_access_79 rfl (lv_at hl 0 rfl) ?_
    refine c_pV [.int ra, .ref (xa 0)] S (c_R_word l _ _ _ _ _ _ _ _ _ _ _ _ _ _ _ _ ((k_a (cK rb.toNatClampNeg)) + im) (by first | assumption | exact in_k rfl | decide)) mf_R_word ml_R_111 hK hN hP 0 3 rfl rfl ⟨rfl, rfl, Nat.le_of_ble_eq_true rfl, Nat.le_of_ble_eq_true rfl⟩ rfl hl.1 rfl (Nat.le_of_ble_eq_true rfl) d_R_access_80 ⟨Nat.zero_le _, Nat.zero_le _⟩ ?_
    refine c_vV [] S (c_R_number l _ _ _ _ _ _ _ _ _ _ _ _ _ _ _ _ A (rW_D hD) ra (f_R_word fM ((k_a (cK rb.toNatClampNeg)) + im)) (by first | assumption | exact in_k rfl | decide)) mf_R_number ml_R_114 hK hN hP hS 0 3 rfl rfl ⟨rfl, rfl, Nat.le_of_ble_eq_true rfl, Nat.le_of_ble_eq_true rfl⟩ rfl hl.1 rfl (Nat.le_of_ble_eq_true rfl) d_R_access_83 ⟨Nat.zero_le _, Nat.zero_le _⟩ (fun H locs hP hS => ?_)
    refine lv_goto (tgt := 208) hx hb d_R_access_86 rfl ?_
    have hF : f_R_access co ra rb im fM gT cK = (fM, gT, (f_R_number cK ra (f_R_word fM ((k_a (cK rb.toNatClampNeg)) + im)))) := (if_neg h_19_17).trans ((if_pos h_19_18).trans (rfl))
    exact e_wv S hr hlocks hP hS (congrArg (fun z => rW q xa th ca st co ra rb rc im hf rz z.1 z.2.1 z.2.2) hF.symm) d_R_access_208
  by_cases h_19_19 : co = (19 : Int32)
  · -- 19: case 19
    refine t_in (19 : Int32) (off := 70) (tgt := 89) hx hb d_R_access_19 h_19_19 (by decide) (by decide) (by decide) rfl ?_
    have h0 : Ar ((k_a (cK rb.toNatClampNeg)) + im) 8 := sz_19 hq h_19_19
    refine lv_aload_n hx hb d_R_access_89 rfl (lv_at hl 1 rfl) ?_
    refine lv_iload_n hx hb d_R_access_90 rfl (lv_at hl 0 rfl) ?_
    refine c_vV [] S (c_R_load l _ _ _ _ _ _ _ _ _ _ _ _ _ _ _ _ A (rW_D hD) ((k_a (cK rb.toNatClampNeg)) + im) (by first | assumption | exact in_k rfl | decide) (by first | assumption | exact in_k rfl | decide)) mf_R_load ml_R_118 hK hN hP hS 0 3 rfl rfl ⟨rfl, rfl, Nat.le_of_ble_eq_true rfl, Nat.le_of_ble_eq_true rfl⟩ rfl hl.1 rfl (Nat.le_of_ble_eq_true rfl) d_R_access_91 ⟨Nat.zero_le _, Nat.zero_le _⟩ (fun H locs hP hS => ?_)
    refine lv_goto (tgt := 208) hx hb d_R_access_94 rfl ?_
    have hF : f_R_access co ra rb im fM gT cK = (fM, gT, (f_R_load ra fM gT cK ((k_a (cK rb.toNatClampNeg)) + im))) := (if_neg h_19_17).trans ((if_neg h_19_18).trans ((if_pos h_19_19).trans (rfl)))
    exact e_wv S hr hlocks hP hS (congrArg (fun z => rW q xa th ca st co ra rb rc im hf rz z.1 z.2.1 z.2.2) hF.symm) d_R_access_208
  by_cases h_19_22 : co = (22 : Int32)
  · -- 19: case 22
    refine t_in (22 : Int32) (off := 78) (tgt := 97) hx hb d_R_access_19 h_19_22 (by decide) (by decide) (by decide) rfl ?_
    have h0 : Ar ((k_a (cK rb.toNatClampNeg)) + im) 8 := sz_22 hq h_19_22
    have h1 := h0.lo.a4
    have h2 := h0.hi.a4
    have h3 := h0.dv (by decide)
    refine lv_aload_n hx hb d_R_access_97 rfl (lv_at hl 1 rfl) ?_
    refine lv_iload_n hx hb d_R_access_98 rfl (lv_at hl 0 rfl) ?_
    refine lv_aload_n hx hb d_R_access_99 rfl (lv_at hl 1 rfl) ?_
    refine r_get S hK hP 6 (by decide) fl_R_26 rfl d_R_access_100 ?_
    refine lv_aload_n hx hb d_R_access_103 rfl (lv_at hl 1 rfl) ?_
    refine r_get S hK hP 12 (by decide) fl_R_79 rfl d_R_access_104 ?_
    refine r_ald_a S hK hP (by first | assumption | exact and7_in _) d_R_access_107 ?_
    refine lv_iconst (v := (4 : Int32)) hx hb d_R_access_108 (by decide) ?_
    refine c_vV [] S (c_R_store l _ _ _ _ _ _ _ _ _ _ _ _ _ _ _ _ A (rW_D hD) ((k_a (cK rb.toNatClampNeg)) + im) (k_a (cK ra.toNatClampNeg)) (4 : Int32) (by first | assumption | exact in_k rfl | decide)) mf_R_store ml_R_122 hK hN hP hS 0 3 rfl rfl ⟨rfl, rfl, Nat.le_of_ble_eq_true rfl, Nat.le_of_ble_eq_true rfl⟩ rfl hl.1 rfl (Nat.le_of_ble_eq_true rfl) d_R_access_109 ⟨Nat.zero_le _, Nat.zero_le _⟩ (fun H locs hP hS => ?_)
    refine lv_aload_n hx hb d_R_access_112 rfl (lv_at hl 1 rfl) ?_
    refine lv_iload_n hx hb d_R_access_113 rfl (lv_at hl 0 rfl) ?_
    refine lv_iconst (v := (4 : Int32)) hx hb d_R_access_114 (by decide) ?_
    refine lv_iadd hx hb d_R_access_115 ?_
    refine lv_aload_n hx hb d_R_access_116 rfl (lv_at hl 1 rfl) ?_
    refine r_get S hK hP 4 (by decide) fl_R_20 rfl d_R_access_117 ?_
    refine lv_aload_n hx hb d_R_access_120 rfl (lv_at hl 1 rfl) ?_
    refine r_get S hK hP 12 (by decide) fl_R_79 rfl d_R_access_121 ?_
    refine r_ald_b S hK hP (by first | assumption | exact and7_in _) d_R_access_124 ?_
    refine lv_sipush (v := (1024 : Int32)) hx hb d_R_access_125 (by decide) ?_
    refine lv_aload_n hx hb d_R_access_128 rfl (lv_at hl 1 rfl) ?_
    refine r_get S hK hP 5 (by decide) fl_R_23 rfl d_R_access_129 ?_
    refine lv_aload_n hx hb d_R_access_132 rfl (lv_at hl 1 rfl) ?_
    refine r_get S hK hP 12 (by decide) fl_R_79 rfl d_R_access_133 ?_
    refine r_ald_t S hK hP (by first | assumption | exact and7_in _) d_R_access_136 ?_
    refine lv_imul hx hb d_R_access_137 ?_
    refine lv_iadd hx hb d_R_access_138 ?_
    refine lv_ldc (v := (1048576 : Int32)) hx hb S.2.2.2.1 (S.2.2.2.2 _ ki_R_126) d_R_access_139 ?_
    refine lv_aload_n hx hb d_R_access_141 rfl (lv_at hl 1 rfl) ?_
    refine r_get S hK hP 8 (by decide) fl_R_32 rfl d_R_access_142 ?_
    refine lv_aload_n hx hb d_R_access_145 rfl (lv_at hl 1 rfl) ?_
    refine r_get S hK hP 12 (by decide) fl_R_79 rfl d_R_access_146 ?_
    refine r_ald_y S hK hP (by first | assumption | exact and7_in _) d_R_access_149 ?_
    refine lv_imul hx hb d_R_access_150 ?_
    refine lv_iadd hx hb d_R_access_151 ?_
    refine lv_aload_n hx hb d_R_access_152 rfl (lv_at hl 1 rfl) ?_
    refine r_get S hK hP 7 (by decide) fl_R_29 rfl d_R_access_153 ?_
    refine lv_aload_n hx hb d_R_access_156 rfl (lv_at hl 1 rfl) ?_
    refine r_get S hK hP 12 (by decide) fl_R_79 rfl d_R_access_157 ?_
    refine r_ald_p S hK hP (by first | assumption | exact and7_in _) d_R_access_160 ?_
    refine lv_bipush (v := (24 : Int32)) hx hb d_R_access_161 (by decide) ?_
    refine lv_ishl hx hb d_R_access_163 ?_
    refine lv_iadd hx hb d_R_access_164 ?_
    refine lv_iconst (v := (4 : Int32)) hx hb d_R_access_165 (by decide) ?_
    refine c_vV [] S (c_R_store l _ _ _ _ _ _ _ _ _ _ _ _ _ _ _ _ A (rW_D hD) (((k_a (cK rb.toNatClampNeg)) + im) + (4 : Int32)) ((((k_b (cK ra.toNatClampNeg)) + ((1024 : Int32) * (k_t (cK ra.toNatClampNeg)))) + ((1048576 : Int32) * (k_y (cK ra.toNatClampNeg)))) + ((k_p (cK ra.toNatClampNeg)) <<< ((24 : Int32) &&& 31))) (4 : Int32) (by first | assumption | exact in_k rfl | decide)) mf_R_store ml_R_122 hK hN hP hS 0 3 rfl rfl ⟨rfl, rfl, Nat.le_of_ble_eq_true rfl, Nat.le_of_ble_eq_true rfl⟩ rfl hl.1 rfl (Nat.le_of_ble_eq_true rfl) d_R_access_166 ⟨Nat.zero_le _, Nat.zero_le _⟩ (fun H locs hP hS => ?_)
    refine lv_aload_n hx hb d_R_access_169 rfl (lv_at hl 1 rfl) ?_
    refine r_get S hK hP 2 (by decide) fl_R_13 rfl d_R_access_170 ?_
    refine lv_iload_n hx hb d_R_access_173 rfl (lv_at hl 0 rfl) ?_
    refine lv_bipush (v := (8 : Int32)) hx hb d_R_access_174 (by decide) ?_
    refine lv_idiv hx hb d_R_access_176 (by decide) ?_
    refine lv_aload_n hx hb d_R_access_177 rfl (lv_at hl 1 rfl) ?_
    refine r_get S hK hP 3 (by decide) fl_R_17 rfl d_R_access_178 ?_
    refine lv_aload_n hx hb d_R_access_181 rfl (lv_at hl 1 rfl) ?_
    refine r_get S hK hP 12 (by decide) fl_R_79 rfl d_R_access_182 ?_
    refine r_ald_v S hK hP (by first | assumption | exact and7_in _) d_R_access_185 ?_
    refine r_ast_tag (z := k_v (cK ra.toNatClampNeg)) S hK hP (rW_D hD) hS (by first | assumption | exact and7_in _) d_R_access_186 (fun H locs hP hS => ?_)
    refine lv_goto (tgt := 208) hx hb d_R_access_187 rfl ?_
    have hF : f_R_access co ra rb im fM gT cK = ((f_R_store ((f_R_store fM gT ((k_a (cK rb.toNatClampNeg)) + im) (k_a (cK ra.toNatClampNeg)) (4 : Int32)).1) ((f_R_store fM gT ((k_a (cK rb.toNatClampNeg)) + im) (k_a (cK ra.toNatClampNeg)) (4 : Int32)).2) (((k_a (cK rb.toNatClampNeg)) + im) + (4 : Int32)) ((((k_b (cK ra.toNatClampNeg)) + ((1024 : Int32) * (k_t (cK ra.toNatClampNeg)))) + ((1048576 : Int32) * (k_y (cK ra.toNatClampNeg)))) + ((k_p (cK ra.toNatClampNeg)) <<< ((24 : Int32) &&& 31))) (4 : Int32)).1, va_up ((f_R_store ((f_R_store fM gT ((k_a (cK rb.toNatClampNeg)) + im) (k_a (cK ra.toNatClampNeg)) (4 : Int32)).1) ((f_R_store fM gT ((k_a (cK rb.toNatClampNeg)) + im) (k_a (cK ra.toNatClampNeg)) (4 : Int32)).2) (((k_a (cK rb.toNatClampNeg)) + im) + (4 : Int32)) ((((k_b (cK ra.toNatClampNeg)) + ((1024 : Int32) * (k_t (cK ra.toNatClampNeg)))) + ((1048576 : Int32) * (k_y (cK ra.toNatClampNeg)))) + ((k_p (cK ra.toNatClampNeg)) <<< ((24 : Int32) &&& 31))) (4 : Int32)).2) ((((k_a (cK rb.toNatClampNeg)) + im) / (8 : Int32)).toNatClampNeg) (k_v (cK ra.toNatClampNeg)), cK) := (if_neg h_19_17).trans ((if_neg h_19_18).trans ((if_neg h_19_19).trans ((if_pos h_19_22).trans (rfl))))
    exact e_wv S hr hlocks hP hS (congrArg (fun z => rW q xa th ca st co ra rb rc im hf rz z.1 z.2.1 z.2.2) hF.symm) d_R_access_208
  refine t_no [17, 18, 19, 22] (tgt := 190) hx hb d_R_access_19 (List.forall_mem_cons.mpr ⟨lv_neT h_19_17 (by decide), List.forall_mem_cons.mpr ⟨lv_neT h_19_18 (by decide), List.forall_mem_cons.mpr ⟨lv_neT h_19_19 (by decide), List.forall_mem_cons.mpr ⟨lv_neT h_19_22 (by decide), fun _ h => absurd h List.not_mem_nil⟩⟩⟩⟩) (by decide) rfl ?_
  refine lv_aload_n hx hb d_R_access_190 rfl (lv_at hl 1 rfl) ?_
  refine lv_iload_n hx hb d_R_access_191 rfl (lv_at hl 0 rfl) ?_
  refine lv_aload_n hx hb d_R_access_192 rfl (lv_at hl 1 rfl) ?_
  refine r_get S hK hP 6 (by decide) fl_R_26 rfl d_R_access_193 ?_
  refine lv_aload_n hx hb d_R_access_196 rfl (lv_at hl 1 rfl) ?_
  refine r_get S hK hP 12 (by decide) fl_R_79 rfl d_R_access_197 ?_
  refine r_ald_a S hK hP (by first | assumption | exact and7_in _) d_R_access_200 ?_
  refine lv_aload_n hx hb d_R_access_201 rfl (lv_at hl 1 rfl) ?_
  refine c_pV [.int (k_a (cK ra.toNatClampNeg)), .int ((k_a (cK rb.toNatClampNeg)) + im), .ref (xa 0)] S (c_R_size l _ _ _ _ _ _ _ _ _ _ _ _ _ _ _ _) mf_R_size ml_R_85 hK hN hP 0 3 rfl rfl ⟨rfl, rfl, Nat.le_of_ble_eq_true rfl, Nat.le_of_ble_eq_true rfl⟩ rfl hl.1 rfl (Nat.le_of_ble_eq_true rfl) d_R_access_202 ⟨Nat.zero_le _, Nat.zero_le _⟩ ?_
  refine c_vV [] S (c_R_store l _ _ _ _ _ _ _ _ _ _ _ _ _ _ _ _ A (rW_D hD) ((k_a (cK rb.toNatClampNeg)) + im) (k_a (cK ra.toNatClampNeg)) (f_R_size co) (by first | assumption | exact in_k rfl | decide)) mf_R_store ml_R_122 hK hN hP hS 0 3 rfl rfl ⟨rfl, rfl, Nat.le_of_ble_eq_true rfl, Nat.le_of_ble_eq_true rfl⟩ rfl hl.1 rfl (Nat.le_of_ble_eq_true rfl) d_R_access_205 ⟨Nat.zero_le _, Nat.zero_le _⟩ (fun H locs hP hS => ?_)
  have hF : f_R_access co ra rb im fM gT cK = ((f_R_store fM gT ((k_a (cK rb.toNatClampNeg)) + im) (k_a (cK ra.toNatClampNeg)) (f_R_size co)).1, (f_R_store fM gT ((k_a (cK rb.toNatClampNeg)) + im) (k_a (cK ra.toNatClampNeg)) (f_R_size co)).2, cK) := (if_neg h_19_17).trans ((if_neg h_19_18).trans ((if_neg h_19_19).trans ((if_neg h_19_22).trans (rfl))))
  exact e_wv S hr hlocks hP hS (congrArg (fun z => rW q xa th ca st co ra rb rc im hf rz z.1 z.2.1 z.2.2) hF.symm) d_R_access_208
def f_R_within (rb : Int32) (rc : Int32) (cK : Nat → Cp) : Bool :=
  if (k_v (cK rb.toNatClampNeg)) = (k_v (cK rc.toNatClampNeg)) then (if (k_b (cK rb.toNatClampNeg)) < (k_b (cK rc.toNatClampNeg)) then false else (if (k_t (cK rc.toNatClampNeg)) < (k_t (cK rb.toNatClampNeg)) then false else (if ((k_p (cK rb.toNatClampNeg)) ||| (k_p (cK rc.toNatClampNeg))) = (k_p (cK rc.toNatClampNeg)) then true else false))) else false
set_option maxHeartbeats 4000000 in
set_option maxRecDepth 100000 in
theorem c_R_within (l : Launch) (D : va_G) (q : Nat → ClassId) (xa : Nat → Nat) (th : Int32) (ca : Int32) (st : Int32) (co : Int32) (ra : Int32) (rb : Int32) (rc : Int32) (im : Int32) (hf : Int32) (rz : Bool) (fM : Nat → Int32) (gT : Nat → Bool) (cK : Nat → Cp) (hrb : vp_in rb 12) (hrc : vp_in rc 12) : PMi l y_R_within b_R_within 1 (some .boolean) ({ frames := 0, cells := 0, slots := 0, locals := 0 }) [.ref (xa 0)] D (tyR q) (rW q xa th ca st co ra rb rc im hf rz fM gT cK) (b2i (f_R_within rb rc cK)) := by
  refine ofP (by decide) (Nat.le_of_ble_eq_true rfl) ?_
  intro p e s m below meth c ls S hr hlocks hK hN hP hl
  have hx := S.1
  have hb := S.2.1
  have hl : lv_has ls 1 [(0, .ref (xa 0))] := hl
  refine lv_aload_n hx hb d_R_within_0 rfl (lv_at hl 0 rfl) ?_
  refine r_get S hK hP 3 (by decide) fl_R_17 rfl d_R_within_1 ?_
  refine lv_aload_n hx hb d_R_within_4 rfl (lv_at hl 0 rfl) ?_
  refine r_get S hK hP 13 (by decide) fl_R_57 rfl d_R_within_5 ?_
  refine r_ald_v S hK hP (by first | assumption | exact and7_in _) d_R_within_8 ?_
  refine lv_aload_n hx hb d_R_within_9 rfl (lv_at hl 0 rfl) ?_
  refine r_get S hK hP 3 (by decide) fl_R_17 rfl d_R_within_10 ?_
  refine lv_aload_n hx hb d_R_within_13 rfl (lv_at hl 0 rfl) ?_
  refine r_get S hK hP 14 (by decide) fl_R_60 rfl d_R_within_14 ?_
  refine r_ald_v S hK hP (by first | assumption | exact and7_in _) d_R_within_17 ?_
  refine jn 99 ls [] (b2i (if (k_v (cK rb.toNatClampNeg)) = (k_v (cK rc.toNatClampNeg)) then (if (k_b (cK rb.toNatClampNeg)) < (k_b (cK rc.toNatClampNeg)) then false else (if (k_t (cK rc.toNatClampNeg)) < (k_t (cK rb.toNatClampNeg)) then false else (if ((k_p (cK rb.toNatClampNeg)) ||| (k_p (cK rc.toNatClampNeg))) = (k_p (cK rc.toNatClampNeg)) then true else false))) else false)) ?_ (fun k_99 => ?_)
  · -- from 99 on
    exact e_pz (z := if (k_v (cK rb.toNatClampNeg)) = (k_v (cK rc.toNatClampNeg)) then (if (k_b (cK rb.toNatClampNeg)) < (k_b (cK rc.toNatClampNeg)) then false else (if (k_t (cK rc.toNatClampNeg)) < (k_t (cK rb.toNatClampNeg)) then false else (if ((k_p (cK rb.toNatClampNeg)) ||| (k_p (cK rc.toNatClampNeg))) = (k_p (cK rc.toNatClampNeg)) then true else false))) else false) S hr hlocks (congrArg b2i (rfl : f_R_within rb rc cK = if (k_v (cK rb.toNatClampNeg)) = (k_v (cK rc.toNatClampNeg)) then (if (k_b (cK rb.toNatClampNeg)) < (k_b (cK rc.toNatClampNeg)) then false else (if (k_t (cK rc.toNatClampNeg)) < (k_t (cK rb.toNatClampNeg)) then false else (if ((k_p (cK rb.toNatClampNeg)) ||| (k_p (cK rc.toNatClampNeg))) = (k_p (cK rc.toNatClampNeg)) then true else false))) else false).symm) d_R_within_99
  · -- to 99
    refine zc_ne (tgt := 98) hx hb d_R_within_18 rfl (fun h_18 => ?_) (fun h_18 => ?_)
    · -- 18: taken
      refine lv_iconst (v := (0 : Int32)) hx hb d_R_within_98 (by decide) ?_
      exact k_99 _ (congrArg b2i ((if_neg h_18).trans (rfl) : (if (k_v (cK rb.toNatClampNeg)) = (k_v (cK rc.toNatClampNeg)) then (if (k_b (cK rb.toNatClampNeg)) < (k_b (cK rc.toNatClampNeg)) then false else (if (k_t (cK rc.toNatClampNeg)) < (k_t (cK rb.toNatClampNeg)) then false else (if ((k_p (cK rb.toNatClampNeg)) ||| (k_p (cK rc.toNatClampNeg))) = (k_p (cK rc.toNatClampNeg)) then true else false))) else false) = false).symm)
    · -- 18: not taken
      refine lv_aload_n hx hb d_R_within_21 rfl (lv_at hl 0 rfl) ?_
      refine r_get S hK hP 4 (by decide) fl_R_20 rfl d_R_within_22 ?_
      refine lv_aload_n hx hb d_R_within_25 rfl (lv_at hl 0 rfl) ?_
      refine r_get S hK hP 13 (by decide) fl_R_57 rfl d_R_within_26 ?_
      refine r_ald_b S hK hP (by first | assumption | exact and7_in _) d_R_within_29 ?_
      refine lv_aload_n hx hb d_R_within_30 rfl (lv_at hl 0 rfl) ?_
      refine r_get S hK hP 4 (by decide) fl_R_20 rfl d_R_within_31 ?_
      refine lv_aload_n hx hb d_R_within_34 rfl (lv_at hl 0 rfl) ?_
      refine r_get S hK hP 14 (by decide) fl_R_60 rfl d_R_within_35 ?_
      refine r_ald_b S hK hP (by first | assumption | exact and7_in _) d_R_within_38 ?_
      refine lv_icmp_lt (tgt := 98) hx hb d_R_within_39 rfl (fun h_39 => ?_) (fun h_39 => ?_)
      · -- 39: taken
        refine lv_iconst (v := (0 : Int32)) hx hb d_R_within_98 (by decide) ?_
        exact k_99 _ (congrArg b2i ((if_pos h_18).trans ((if_pos h_39).trans (rfl)) : (if (k_v (cK rb.toNatClampNeg)) = (k_v (cK rc.toNatClampNeg)) then (if (k_b (cK rb.toNatClampNeg)) < (k_b (cK rc.toNatClampNeg)) then false else (if (k_t (cK rc.toNatClampNeg)) < (k_t (cK rb.toNatClampNeg)) then false else (if ((k_p (cK rb.toNatClampNeg)) ||| (k_p (cK rc.toNatClampNeg))) = (k_p (cK rc.toNatClampNeg)) then true else false))) else false) = false).symm)
      · -- 39: not taken
        refine lv_aload_n hx hb d_R_within_42 rfl (lv_at hl 0 rfl) ?_
        refine r_get S hK hP 5 (by decide) fl_R_23 rfl d_R_within_43 ?_
        refine lv_aload_n hx hb d_R_within_46 rfl (lv_at hl 0 rfl) ?_
        refine r_get S hK hP 13 (by decide) fl_R_57 rfl d_R_within_47 ?_
        refine r_ald_t S hK hP (by first | assumption | exact and7_in _) d_R_within_50 ?_
        refine lv_aload_n hx hb d_R_within_51 rfl (lv_at hl 0 rfl) ?_
        refine r_get S hK hP 5 (by decide) fl_R_23 rfl d_R_within_52 ?_
        refine lv_aload_n hx hb d_R_within_55 rfl (lv_at hl 0 rfl) ?_
        refine r_get S hK hP 14 (by decide) fl_R_60 rfl d_R_within_56 ?_
        refine r_ald_t S hK hP (by first | assumption | exact and7_in _) d_R_within_59 ?_
        refine lv_icmp_gt (tgt := 98) hx hb d_R_within_60 rfl (fun h_60 => ?_) (fun h_60 => ?_)
        · -- 60: taken
          refine lv_iconst (v := (0 : Int32)) hx hb d_R_within_98 (by decide) ?_
          exact k_99 _ (congrArg b2i ((if_pos h_18).trans ((if_neg h_39).trans ((if_pos h_60).trans (rfl))) : (if (k_v (cK rb.toNatClampNeg)) = (k_v (cK rc.toNatClampNeg)) then (if (k_b (cK rb.toNatClampNeg)) < (k_b (cK rc.toNatClampNeg)) then false else (if (k_t (cK rc.toNatClampNeg)) < (k_t (cK rb.toNatClampNeg)) then false else (if ((k_p (cK rb.toNatClampNeg)) ||| (k_p (cK rc.toNatClampNeg))) = (k_p (cK rc.toNatClampNeg)) then true else false))) else false) = false).symm)
        · -- 60: not taken
          refine lv_aload_n hx hb d_R_within_63 rfl (lv_at hl 0 rfl) ?_
          refine r_get S hK hP 7 (by decide) fl_R_29 rfl d_R_within_64 ?_
          refine lv_aload_n hx hb d_R_within_67 rfl (lv_at hl 0 rfl) ?_
          refine r_get S hK hP 13 (by decide) fl_R_57 rfl d_R_within_68 ?_
          refine r_ald_p S hK hP (by first | assumption | exact and7_in _) d_R_within_71 ?_
          refine lv_aload_n hx hb d_R_within_72 rfl (lv_at hl 0 rfl) ?_
          refine r_get S hK hP 7 (by decide) fl_R_29 rfl d_R_within_73 ?_
          refine lv_aload_n hx hb d_R_within_76 rfl (lv_at hl 0 rfl) ?_
          refine r_get S hK hP 14 (by decide) fl_R_60 rfl d_R_within_77 ?_
          refine r_ald_p S hK hP (by first | assumption | exact and7_in _) d_R_within_80 ?_
          refine lv_ior hx hb d_R_within_81 ?_
          refine lv_aload_n hx hb d_R_within_82 rfl (lv_at hl 0 rfl) ?_
          refine r_get S hK hP 7 (by decide) fl_R_29 rfl d_R_within_83 ?_
          refine lv_aload_n hx hb d_R_within_86 rfl (lv_at hl 0 rfl) ?_
          refine r_get S hK hP 14 (by decide) fl_R_60 rfl d_R_within_87 ?_
          refine r_ald_p S hK hP (by first | assumption | exact and7_in _) d_R_within_90 ?_
          refine lv_icmp_ne (tgt := 98) hx hb d_R_within_91 rfl (fun h_91 => ?_) (fun h_91 => ?_)
          · -- 91: taken
            refine lv_iconst (v := (0 : Int32)) hx hb d_R_within_98 (by decide) ?_
            exact k_99 _ (congrArg b2i ((if_pos h_18).trans ((if_neg h_39).trans ((if_neg h_60).trans ((if_neg h_91).trans (rfl)))) : (if (k_v (cK rb.toNatClampNeg)) = (k_v (cK rc.toNatClampNeg)) then (if (k_b (cK rb.toNatClampNeg)) < (k_b (cK rc.toNatClampNeg)) then false else (if (k_t (cK rc.toNatClampNeg)) < (k_t (cK rb.toNatClampNeg)) then false else (if ((k_p (cK rb.toNatClampNeg)) ||| (k_p (cK rc.toNatClampNeg))) = (k_p (cK rc.toNatClampNeg)) then true else false))) else false) = false).symm)
          · -- 91: not taken
            refine lv_iconst (v := (1 : Int32)) hx hb d_R_within_94 (by decide) ?_
            refine lv_goto (tgt := 99) hx hb d_R_within_95 rfl ?_
            exact k_99 _ (congrArg b2i ((if_pos h_18).trans ((if_neg h_39).trans ((if_neg h_60).trans ((if_pos h_91).trans (rfl)))) : (if (k_v (cK rb.toNatClampNeg)) = (k_v (cK rc.toNatClampNeg)) then (if (k_b (cK rb.toNatClampNeg)) < (k_b (cK rc.toNatClampNeg)) then false else (if (k_t (cK rc.toNatClampNeg)) < (k_t (cK rb.toNatClampNeg)) then false else (if ((k_p (cK rb.toNatClampNeg)) ||| (k_p (cK rc.toNatClampNeg))) = (k_p (cK rc.toNatClampNeg)) then true else false))) else false) = true).symm)
def f_R_reckon (co : Int32) (rb : Int32) (rc : Int32) (hf : Int32) (cK : Nat → Cp) : Int32 :=
  if co = (1 : Int32) then hf
  else if co = (2 : Int32) then ((k_a (cK rb.toNatClampNeg)) + (k_a (cK rc.toNatClampNeg)))
  else if co = (3 : Int32) then ((k_a (cK rb.toNatClampNeg)) - (k_a (cK rc.toNatClampNeg)))
  else if co = (23 : Int32) then (b2i (if (k_v (cK rb.toNatClampNeg)) = true then true else false))
  else if co = (24 : Int32) then (k_b (cK rb.toNatClampNeg))
  else if co = (25 : Int32) then (k_t (cK rb.toNatClampNeg))
  else if co = (26 : Int32) then (k_p (cK rb.toNatClampNeg))
  else if co = (27 : Int32) then (k_y (cK rb.toNatClampNeg))
  else if co = (28 : Int32) then (k_a (cK rb.toNatClampNeg))
  else (b2i (if (f_R_within rb rc cK) = true then true else false))
set_option maxHeartbeats 4000000 in
set_option maxRecDepth 100000 in
theorem c_R_reckon (l : Launch) (D : va_G) (q : Nat → ClassId) (xa : Nat → Nat) (th : Int32) (ca : Int32) (st : Int32) (co : Int32) (ra : Int32) (rb : Int32) (rc : Int32) (im : Int32) (hf : Int32) (rz : Bool) (fM : Nat → Int32) (gT : Nat → Bool) (cK : Nat → Cp) (hrb : vp_in rb 12) (hrc : vp_in rc 12) : PMi l y_R_reckon b_R_reckon 1 (some .int) ({ frames := 1, cells := 0, slots := 0, locals := 20 }) [.ref (xa 0)] D (tyR q) (rW q xa th ca st co ra rb rc im hf rz fM gT cK) ((f_R_reckon co rb rc hf cK)) := by
  refine ofP (by decide) (Nat.le_of_ble_eq_true rfl) ?_
  intro p e s m below meth c ls S hr hlocks hK hN hP hl
  have hx := S.1
  have hb := S.2.1
  have hl : lv_has ls 1 [(0, .ref (xa 0))] := hl
  refine lv_aload_n hx hb d_R_reckon_0 rfl (lv_at hl 0 rfl) ?_
  refine r_get S hK hP 11 (by decide) fl_R_72 rfl d_R_reckon_1 ?_
  by_cases h_4_1 : co = (1 : Int32)
  · -- 4: case 1
    refine t_in (1 : Int32) (off := 128) (tgt := 132) hx hb d_R_reckon_4 h_4_1 (by decide) (by decide) (by decide) rfl ?_
    refine lv_aload_n hx hb d_R_reckon_132 rfl (lv_at hl 0 rfl) ?_
    refine r_get S hK hP 16 (by decide) fl_R_127 rfl d_R_reckon_133 ?_
    exact e_pi S hr hlocks ((if_pos h_4_1).trans (rfl) : f_R_reckon co rb rc hf cK = hf).symm d_R_reckon_136
  by_cases h_4_2 : co = (2 : Int32)
  · -- 4: case 2
    refine t_in (2 : Int32) (off := 133) (tgt := 137) hx hb d_R_reckon_4 h_4_2 (by decide) (by decide) (by decide) rfl ?_
    refine lv_aload_n hx hb d_R_reckon_137 rfl (lv_at hl 0 rfl) ?_
    refine r_get S hK hP 6 (by decide) fl_R_26 rfl d_R_reckon_138 ?_
    refine lv_aload_n hx hb d_R_reckon_141 rfl (lv_at hl 0 rfl) ?_
    refine r_get S hK hP 13 (by decide) fl_R_57 rfl d_R_reckon_142 ?_
    refine r_ald_a S hK hP (by first | assumption | exact and7_in _) d_R_reckon_145 ?_
    refine lv_aload_n hx hb d_R_reckon_146 rfl (lv_at hl 0 rfl) ?_
    refine r_get S hK hP 6 (by decide) fl_R_26 rfl d_R_reckon_147 ?_
    refine lv_aload_n hx hb d_R_reckon_150 rfl (lv_at hl 0 rfl) ?_
    refine r_get S hK hP 14 (by decide) fl_R_60 rfl d_R_reckon_151 ?_
    refine r_ald_a S hK hP (by first | assumption | exact and7_in _) d_R_reckon_154 ?_
    refine lv_iadd hx hb d_R_reckon_155 ?_
    exact e_pi S hr hlocks ((if_neg h_4_1).trans ((if_pos h_4_2).trans (rfl)) : f_R_reckon co rb rc hf cK = (k_a (cK rb.toNatClampNeg)) + (k_a (cK rc.toNatClampNeg))).symm d_R_reckon_156
  by_cases h_4_3 : co = (3 : Int32)
  · -- 4: case 3
    refine t_in (3 : Int32) (off := 153) (tgt := 157) hx hb d_R_reckon_4 h_4_3 (by decide) (by decide) (by decide) rfl ?_
    refine lv_aload_n hx hb d_R_reckon_157 rfl (lv_at hl 0 rfl) ?_
    refine r_get S hK hP 6 (by decide) fl_R_26 rfl d_R_reckon_158 ?_
    refine lv_aload_n hx hb d_R_reckon_161 rfl (lv_at hl 0 rfl) ?_
    refine r_get S hK hP 13 (by decide) fl_R_57 rfl d_R_reckon_162 ?_
    refine r_ald_a S hK hP (by first | assumption | exact and7_in _) d_R_reckon_165 ?_
    refine lv_aload_n hx hb d_R_reckon_166 rfl (lv_at hl 0 rfl) ?_
    refine r_get S hK hP 6 (by decide) fl_R_26 rfl d_R_reckon_167 ?_
    refine lv_aload_n hx hb d_R_reckon_170 rfl (lv_at hl 0 rfl) ?_
    refine r_get S hK hP 14 (by decide) fl_R_60 rfl d_R_reckon_171 ?_
    refine r_ald_a S hK hP (by first | assumption | exact and7_in _) d_R_reckon_174 ?_
    refine lv_isub hx hb d_R_reckon_175 ?_
    exact e_pi S hr hlocks ((if_neg h_4_1).trans ((if_neg h_4_2).trans ((if_pos h_4_3).trans (rfl))) : f_R_reckon co rb rc hf cK = (k_a (cK rb.toNatClampNeg)) - (k_a (cK rc.toNatClampNeg))).symm d_R_reckon_176
  by_cases h_4_23 : co = (23 : Int32)
  · -- 4: case 23
    refine t_in (23 : Int32) (off := 173) (tgt := 177) hx hb d_R_reckon_4 h_4_23 (by decide) (by decide) (by decide) rfl ?_
    refine lv_aload_n hx hb d_R_reckon_177 rfl (lv_at hl 0 rfl) ?_
    refine r_get S hK hP 3 (by decide) fl_R_17 rfl d_R_reckon_178 ?_
    refine lv_aload_n hx hb d_R_reckon_181 rfl (lv_at hl 0 rfl) ?_
    refine r_get S hK hP 13 (by decide) fl_R_57 rfl d_R_reckon_182 ?_
    refine r_ald_v S hK hP (by first | assumption | exact and7_in _) d_R_reckon_185 ?_
    refine jn 194 ls [] (b2i (if (k_v (cK rb.toNatClampNeg)) = true then true else false)) ?_ (fun k_194 => ?_)
    · -- from 194 on
      exact e_pi S hr hlocks ((if_neg h_4_1).trans ((if_neg h_4_2).trans ((if_neg h_4_3).trans ((if_pos h_4_23).trans (rfl)))) : f_R_reckon co rb rc hf cK = b2i (if (k_v (cK rb.toNatClampNeg)) = true then true else false)).symm d_R_reckon_194
    · -- to 194
      refine zb_eq (tgt := 193) hx hb d_R_reckon_186 rfl (fun h_186 => ?_) (fun h_186 => ?_)
      · -- 186: taken
        refine lv_iconst (v := (0 : Int32)) hx hb d_R_reckon_193 (by decide) ?_
        exact k_194 _ (congrArg b2i ((if_neg (bn_f h_186)).trans (rfl) : (if (k_v (cK rb.toNatClampNeg)) = true then true else false) = false).symm)
      · -- 186: not taken
        refine lv_iconst (v := (1 : Int32)) hx hb d_R_reckon_189 (by decide) ?_
        refine lv_goto (tgt := 194) hx hb d_R_reckon_190 rfl ?_
        exact k_194 _ (congrArg b2i ((if_pos h_186).trans (rfl) : (if (k_v (cK rb.toNatClampNeg)) = true then true else false) = true).symm)
  by_cases h_4_24 : co = (24 : Int32)
  · -- 4: case 24
    refine t_in (24 : Int32) (off := 191) (tgt := 195) hx hb d_R_reckon_4 h_4_24 (by decide) (by decide) (by decide) rfl ?_
    refine lv_aload_n hx hb d_R_reckon_195 rfl (lv_at hl 0 rfl) ?_
    refine r_get S hK hP 4 (by decide) fl_R_20 rfl d_R_reckon_196 ?_
    refine lv_aload_n hx hb d_R_reckon_199 rfl (lv_at hl 0 rfl) ?_
    refine r_get S hK hP 13 (by decide) fl_R_57 rfl d_R_reckon_200 ?_
    refine r_ald_b S hK hP (by first | assumption | exact and7_in _) d_R_reckon_203 ?_
    exact e_pi S hr hlocks ((if_neg h_4_1).trans ((if_neg h_4_2).trans ((if_neg h_4_3).trans ((if_neg h_4_23).trans ((if_pos h_4_24).trans (rfl))))) : f_R_reckon co rb rc hf cK = k_b (cK rb.toNatClampNeg)).symm d_R_reckon_204
  by_cases h_4_25 : co = (25 : Int32)
  · -- 4: case 25
    refine t_in (25 : Int32) (off := 201) (tgt := 205) hx hb d_R_reckon_4 h_4_25 (by decide) (by decide) (by decide) rfl ?_
    refine lv_aload_n hx hb d_R_reckon_205 rfl (lv_at hl 0 rfl) ?_
    refine r_get S hK hP 5 (by decide) fl_R_23 rfl d_R_reckon_206 ?_
    refine lv_aload_n hx hb d_R_reckon_209 rfl (lv_at hl 0 rfl) ?_
    refine r_get S hK hP 13 (by decide) fl_R_57 rfl d_R_reckon_210 ?_
    refine r_ald_t S hK hP (by first | assumption | exact and7_in _) d_R_reckon_213 ?_
    exact e_pi S hr hlocks ((if_neg h_4_1).trans ((if_neg h_4_2).trans ((if_neg h_4_3).trans ((if_neg h_4_23).trans ((if_neg h_4_24).trans ((if_pos h_4_25).trans (rfl)))))) : f_R_reckon co rb rc hf cK = k_t (cK rb.toNatClampNeg)).symm d_R_reckon_214
  by_cases h_4_26 : co = (26 : Int32)
  · -- 4: case 26
    refine t_in (26 : Int32) (off := 211) (tgt := 215) hx hb d_R_reckon_4 h_4_26 (by decide) (by decide) (by decide) rfl ?_
    refine lv_aload_n hx hb d_R_reckon_215 rfl (lv_at hl 0 rfl) ?_
    refine r_get S hK hP 7 (by decide) fl_R_29 rfl d_R_reckon_216 ?_
    refine lv_aload_n hx hb d_R_reckon_219 rfl (lv_at hl 0 rfl) ?_
    refine r_get S hK hP 13 (by decide) fl_R_57 rfl d_R_reckon_220 ?_
    refine r_ald_p S hK hP (by first | assumption | exact and7_in _) d_R_reckon_223 ?_
    exact e_pi S hr hlocks ((if_neg h_4_1).trans ((if_neg h_4_2).trans ((if_neg h_4_3).trans ((if_neg h_4_23).trans ((if_neg h_4_24).trans ((if_neg h_4_25).trans ((if_pos h_4_26).trans (rfl))))))) : f_R_reckon co rb rc hf cK = k_p (cK rb.toNatClampNeg)).symm d_R_reckon_224
  by_cases h_4_27 : co = (27 : Int32)
  · -- 4: case 27
    refine t_in (27 : Int32) (off := 221) (tgt := 225) hx hb d_R_reckon_4 h_4_27 (by decide) (by decide) (by decide) rfl ?_
    refine lv_aload_n hx hb d_R_reckon_225 rfl (lv_at hl 0 rfl) ?_
    refine r_get S hK hP 8 (by decide) fl_R_32 rfl d_R_reckon_226 ?_
    refine lv_aload_n hx hb d_R_reckon_229 rfl (lv_at hl 0 rfl) ?_
    refine r_get S hK hP 13 (by decide) fl_R_57 rfl d_R_reckon_230 ?_
    refine r_ald_y S hK hP (by first | assumption | exact and7_in _) d_R_reckon_233 ?_
    exact e_pi S hr hlocks ((if_neg h_4_1).trans ((if_neg h_4_2).trans ((if_neg h_4_3).trans ((if_neg h_4_23).trans ((if_neg h_4_24).trans ((if_neg h_4_25).trans ((if_neg h_4_26).trans ((if_pos h_4_27).trans (rfl)))))))) : f_R_reckon co rb rc hf cK = k_y (cK rb.toNatClampNeg)).symm d_R_reckon_234
  by_cases h_4_28 : co = (28 : Int32)
  · -- 4: case 28
    refine t_in (28 : Int32) (off := 231) (tgt := 235) hx hb d_R_reckon_4 h_4_28 (by decide) (by decide) (by decide) rfl ?_
    refine lv_aload_n hx hb d_R_reckon_235 rfl (lv_at hl 0 rfl) ?_
    refine r_get S hK hP 6 (by decide) fl_R_26 rfl d_R_reckon_236 ?_
    refine lv_aload_n hx hb d_R_reckon_239 rfl (lv_at hl 0 rfl) ?_
    refine r_get S hK hP 13 (by decide) fl_R_57 rfl d_R_reckon_240 ?_
    refine r_ald_a S hK hP (by first | assumption | exact and7_in _) d_R_reckon_243 ?_
    exact e_pi S hr hlocks ((if_neg h_4_1).trans ((if_neg h_4_2).trans ((if_neg h_4_3).trans ((if_neg h_4_23).trans ((if_neg h_4_24).trans ((if_neg h_4_25).trans ((if_neg h_4_26).trans ((if_neg h_4_27).trans ((if_pos h_4_28).trans (rfl))))))))) : f_R_reckon co rb rc hf cK = k_a (cK rb.toNatClampNeg)).symm d_R_reckon_244
  refine t_no [1, 2, 3, 23, 24, 25, 26, 27, 28] (tgt := 245) hx hb d_R_reckon_4 (List.forall_mem_cons.mpr ⟨lv_neT h_4_1 (by decide), List.forall_mem_cons.mpr ⟨lv_neT h_4_2 (by decide), List.forall_mem_cons.mpr ⟨lv_neT h_4_3 (by decide), List.forall_mem_cons.mpr ⟨lv_neT h_4_23 (by decide), List.forall_mem_cons.mpr ⟨lv_neT h_4_24 (by decide), List.forall_mem_cons.mpr ⟨lv_neT h_4_25 (by decide), List.forall_mem_cons.mpr ⟨lv_neT h_4_26 (by decide), List.forall_mem_cons.mpr ⟨lv_neT h_4_27 (by decide), List.forall_mem_cons.mpr ⟨lv_neT h_4_28 (by decide), fun _ h => absurd h List.not_mem_nil⟩⟩⟩⟩⟩⟩⟩⟩⟩) (by decide) rfl ?_
  refine lv_aload_n hx hb d_R_reckon_245 rfl (lv_at hl 0 rfl) ?_
  refine c_pV [] S (c_R_within l _ _ _ _ _ _ _ _ _ _ _ _ _ _ _ _ (by first | assumption | exact in_k rfl | decide) (by first | assumption | exact in_k rfl | decide)) mf_R_within ml_R_130 hK hN hP 0 3 rfl rfl ⟨rfl, rfl, Nat.le_of_ble_eq_true rfl, Nat.le_of_ble_eq_true rfl⟩ rfl hl.1 rfl (Nat.le_of_ble_eq_true rfl) d_R_reckon_246 ⟨Nat.zero_le _, Nat.zero_le _⟩ ?_
  refine jn 257 ls [] (b2i (if (f_R_within rb rc cK) = true then true else false)) ?_ (fun k_257 => ?_)
  · -- from 257 on
    exact e_pi S hr hlocks ((if_neg h_4_1).trans ((if_neg h_4_2).trans ((if_neg h_4_3).trans ((if_neg h_4_23).trans ((if_neg h_4_24).trans ((if_neg h_4_25).trans ((if_neg h_4_26).trans ((if_neg h_4_27).trans ((if_neg h_4_28).trans (rfl))))))))) : f_R_reckon co rb rc hf cK = b2i (if (f_R_within rb rc cK) = true then true else false)).symm d_R_reckon_257
  · -- to 257
    refine zb_eq (tgt := 256) hx hb d_R_reckon_249 rfl (fun h_249 => ?_) (fun h_249 => ?_)
    · -- 249: taken
      refine lv_iconst (v := (0 : Int32)) hx hb d_R_reckon_256 (by decide) ?_
      exact k_257 _ (congrArg b2i ((if_neg (bn_f h_249)).trans (rfl) : (if (f_R_within rb rc cK) = true then true else false) = false).symm)
    · -- 249: not taken
      refine lv_iconst (v := (1 : Int32)) hx hb d_R_reckon_252 (by decide) ?_
      refine lv_goto (tgt := 257) hx hb d_R_reckon_253 rfl ?_
      exact k_257 _ (congrArg b2i ((if_pos h_249).trans (rfl) : (if (f_R_within rb rc cK) = true then true else false) = true).symm)
def f_R_bound (rb : Int32) (rc : Int32) (cK : Nat → Cp) : (Nat → Cp) :=
  va_up cK ((11 : Int32).toNatClampNeg) (s_t (s_b (cK ((11 : Int32).toNatClampNeg)) (if (f_R_exact (k_a (cK rb.toNatClampNeg)) ((k_a (cK rb.toNatClampNeg)) + (k_a (cK rc.toNatClampNeg)))) = true then (k_a (cK rb.toNatClampNeg)) else (f_R_down (k_a (cK rb.toNatClampNeg))))) (if (f_R_exact (k_a (cK rb.toNatClampNeg)) ((k_a (cK rb.toNatClampNeg)) + (k_a (cK rc.toNatClampNeg)))) = true then ((k_a (cK rb.toNatClampNeg)) + (k_a (cK rc.toNatClampNeg))) else (f_R_up ((k_a (cK rb.toNatClampNeg)) + (k_a (cK rc.toNatClampNeg))))))
set_option maxHeartbeats 4000000 in
set_option maxRecDepth 100000 in
theorem c_R_bound (l : Launch) (D : va_G) (q : Nat → ClassId) (xa : Nat → Nat) (th : Int32) (ca : Int32) (st : Int32) (co : Int32) (ra : Int32) (rb : Int32) (rc : Int32) (im : Int32) (hf : Int32) (rz : Bool) (fM : Nat → Int32) (gT : Nat → Bool) (cK : Nat → Cp) (A : Nat → Prop) (hD : va_D A (rW q xa th ca st co ra rb rc im hf rz fM gT cK)) (hrb : vp_in rb 12) (hrc : vp_in rc 12) : WMv l y_R_bound b_R_bound 4 none ({ frames := 1, cells := 0, slots := 0, locals := 22 }) [.ref (xa 0)] D (tyR q) (rW q xa th ca st co ra rb rc im hf rz fM gT cK) (rW q xa th ca st co ra rb rc im hf rz fM gT (f_R_bound rb rc cK)) A := by
  refine ofV (by decide) (Nat.le_of_ble_eq_true rfl) ?_
  intro p e s m below meth c ls S hr hlocks hK hN hP hl
  have hx := S.1
  have hb := S.2.1
  have hS : va_S A s.heap s.heap [] := va_S.rf
  have hl : lv_has ls 4 [(0, .ref (xa 0))] := hl
  refine lv_aload_n hx hb d_R_bound_0 rfl (lv_at hl 0 rfl) ?_
  refine r_get S hK hP 6 (by decide) fl_R_26 rfl d_R_bound_1 ?_
  refine lv_aload_n hx hb d_R_bound_4 rfl (lv_at hl 0 rfl) ?_
  refine r_get S hK hP 13 (by decide) fl_R_57 rfl d_R_bound_5 ?_
  refine r_ald_a S hK hP (by first | assumption | exact and7_in _) d_R_bound_8 ?_
  refine lv_istore_n (lv' := [(1, .int _), (0, .ref _)]) hx hb d_R_bound_9 rfl hl (by decide) rfl (fun ls hl => ?_)
  refine lv_iload_n hx hb d_R_bound_10 rfl (lv_at hl 0 rfl) ?_
  refine lv_aload_n hx hb d_R_bound_11 rfl (lv_at hl 1 rfl) ?_
  refine r_get S hK hP 6 (by decide) fl_R_26 rfl d_R_bound_12 ?_
  refine lv_aload_n hx hb d_R_bound_15 rfl (lv_at hl 1 rfl) ?_
  refine r_get S hK hP 14 (by decide) fl_R_60 rfl d_R_bound_16 ?_
  refine r_ald_a S hK hP (by first | assumption | exact and7_in _) d_R_bound_19 ?_
  refine lv_iadd hx hb d_R_bound_20 ?_
  refine lv_istore_n (lv' := [(2, .int _), (1, .int _), (0, .ref _)]) hx hb d_R_bound_21 rfl hl (by decide) rfl (fun ls hl => ?_)
  refine lv_aload_n hx hb d_R_bound_22 rfl (lv_at hl 2 rfl) ?_
  refine lv_iload_n hx hb d_R_bound_23 rfl (lv_at hl 1 rfl) ?_
  refine lv_iload_n hx hb d_R_bound_24 rfl (lv_at hl 0 rfl) ?_
  refine c_pV [] S (c_R_exact l _ _ _ _ _ _ _ _ _ _ _ _ _ _ _ _ (k_a (cK rb.toNatClampNeg)) ((k_a (cK rb.toNatClampNeg)) + (k_a (cK rc.toNatClampNeg)))) mf_R_exact ml_R_63 hK hN hP 0 3 rfl rfl ⟨rfl, rfl, Nat.le_of_ble_eq_true rfl, Nat.le_of_ble_eq_true rfl⟩ rfl hl.1 rfl (Nat.le_of_ble_eq_true rfl) d_R_bound_25 ⟨Nat.zero_le _, Nat.zero_le _⟩ ?_
  refine lv_istore_n (lv' := [(3, .int _), (2, .int _), (1, .int _), (0, .ref _)]) hx hb d_R_bound_28 rfl hl (by decide) rfl (fun ls hl => ?_)
  refine lv_aload_n hx hb d_R_bound_29 rfl (lv_at hl 3 rfl) ?_
  refine r_get S hK hP 4 (by decide) fl_R_20 rfl d_R_bound_30 ?_
  refine lv_bipush (v := (11 : Int32)) hx hb d_R_bound_33 (by decide) ?_
  refine lv_iload_n hx hb d_R_bound_35 rfl (lv_at hl 0 rfl) ?_
  refine jn 48 ls [.int (11 : Int32), .ref (xa 4)] (if (f_R_exact (k_a (cK rb.toNatClampNeg)) ((k_a (cK rb.toNatClampNeg)) + (k_a (cK rc.toNatClampNeg)))) = true then (k_a (cK rb.toNatClampNeg)) else (f_R_down (k_a (cK rb.toNatClampNeg)))) ?_ (fun k_48 => ?_)
  · -- from 48 on
    refine r_ast_b S hK hP (rW_D hD) hS (in_k rfl) d_R_bound_48 (fun H locs hP hS => ?_)
    refine lv_aload_n hx hb d_R_bound_49 rfl (lv_at hl 3 rfl) ?_
    refine r_get S hK hP 5 (by decide) fl_R_23 rfl d_R_bound_50 ?_
    refine lv_bipush (v := (11 : Int32)) hx hb d_R_bound_53 (by decide) ?_
    refine lv_iload_n hx hb d_R_bound_55 rfl (lv_at hl 0 rfl) ?_
    refine jn 68 ls [.int (11 : Int32), .ref (xa 5)] (if (f_R_exact (k_a (cK rb.toNatClampNeg)) ((k_a (cK rb.toNatClampNeg)) + (k_a (cK rc.toNatClampNeg)))) = true then ((k_a (cK rb.toNatClampNeg)) + (k_a (cK rc.toNatClampNeg))) else (f_R_up ((k_a (cK rb.toNatClampNeg)) + (k_a (cK rc.toNatClampNeg))))) ?_ (fun k_68 => ?_)
    · -- from 68 on
      refine r_ast_tO S hK hP (rW_D hD) hS (in_k rfl) d_R_bound_68 (fun H locs hP hS => ?_)
      have hF : f_R_bound rb rc cK = va_up cK ((11 : Int32).toNatClampNeg) (s_t (s_b (cK ((11 : Int32).toNatClampNeg)) (if (f_R_exact (k_a (cK rb.toNatClampNeg)) ((k_a (cK rb.toNatClampNeg)) + (k_a (cK rc.toNatClampNeg)))) = true then (k_a (cK rb.toNatClampNeg)) else (f_R_down (k_a (cK rb.toNatClampNeg))))) (if (f_R_exact (k_a (cK rb.toNatClampNeg)) ((k_a (cK rb.toNatClampNeg)) + (k_a (cK rc.toNatClampNeg)))) = true then ((k_a (cK rb.toNatClampNeg)) + (k_a (cK rc.toNatClampNeg))) else (f_R_up ((k_a (cK rb.toNatClampNeg)) + (k_a (cK rc.toNatClampNeg)))))) := rfl
      exact e_wv S hr hlocks hP hS (congrArg (fun z => rW q xa th ca st co ra rb rc im hf rz fM gT z) hF.symm) d_R_bound_69
    · -- to 68
      refine zb_eq (tgt := 63) hx hb d_R_bound_56 rfl (fun h_56 => ?_) (fun h_56 => ?_)
      · -- 56: taken
        refine lv_aload_n hx hb d_R_bound_63 rfl (lv_at hl 3 rfl) ?_
        refine lv_iload_n hx hb d_R_bound_64 rfl (lv_at hl 1 rfl) ?_
        refine c_pV [.int (11 : Int32), .ref (xa 5)] S (c_R_up l _ _ _ _ _ _ _ _ _ _ _ _ _ _ _ _ ((k_a (cK rb.toNatClampNeg)) + (k_a (cK rc.toNatClampNeg)))) mf_R_up ml_R_69 hK hN hP 0 3 rfl rfl ⟨rfl, rfl, Nat.le_of_ble_eq_true rfl, Nat.le_of_ble_eq_true rfl⟩ rfl hl.1 rfl (Nat.le_of_ble_eq_true rfl) d_R_bound_65 ⟨Nat.zero_le _, Nat.zero_le _⟩ ?_
        exact k_68 _ ((if_neg (bn_f h_56)).trans (rfl) : (if (f_R_exact (k_a (cK rb.toNatClampNeg)) ((k_a (cK rb.toNatClampNeg)) + (k_a (cK rc.toNatClampNeg)))) = true then ((k_a (cK rb.toNatClampNeg)) + (k_a (cK rc.toNatClampNeg))) else (f_R_up ((k_a (cK rb.toNatClampNeg)) + (k_a (cK rc.toNatClampNeg))))) = (f_R_up ((k_a (cK rb.toNatClampNeg)) + (k_a (cK rc.toNatClampNeg))))).symm
      · -- 56: not taken
        refine lv_iload_n hx hb d_R_bound_59 rfl (lv_at hl 1 rfl) ?_
        refine lv_goto (tgt := 68) hx hb d_R_bound_60 rfl ?_
        exact k_68 _ ((if_pos h_56).trans (rfl) : (if (f_R_exact (k_a (cK rb.toNatClampNeg)) ((k_a (cK rb.toNatClampNeg)) + (k_a (cK rc.toNatClampNeg)))) = true then ((k_a (cK rb.toNatClampNeg)) + (k_a (cK rc.toNatClampNeg))) else (f_R_up ((k_a (cK rb.toNatClampNeg)) + (k_a (cK rc.toNatClampNeg))))) = (k_a (cK rb.toNatClampNeg)) + (k_a (cK rc.toNatClampNeg))).symm
  · -- to 48
    refine zb_eq (tgt := 43) hx hb d_R_bound_36 rfl (fun h_36 => ?_) (fun h_36 => ?_)
    · -- 36: taken
      refine lv_aload_n hx hb d_R_bound_43 rfl (lv_at hl 3 rfl) ?_
      refine lv_iload_n hx hb d_R_bound_44 rfl (lv_at hl 2 rfl) ?_
      refine c_pV [.int (11 : Int32), .ref (xa 4)] S (c_R_down l _ _ _ _ _ _ _ _ _ _ _ _ _ _ _ _ (k_a (cK rb.toNatClampNeg))) mf_R_down ml_R_66 hK hN hP 0 3 rfl rfl ⟨rfl, rfl, Nat.le_of_ble_eq_true rfl, Nat.le_of_ble_eq_true rfl⟩ rfl hl.1 rfl (Nat.le_of_ble_eq_true rfl) d_R_bound_45 ⟨Nat.zero_le _, Nat.zero_le _⟩ ?_
      exact k_48 _ ((if_neg (bn_f h_36)).trans (rfl) : (if (f_R_exact (k_a (cK rb.toNatClampNeg)) ((k_a (cK rb.toNatClampNeg)) + (k_a (cK rc.toNatClampNeg)))) = true then (k_a (cK rb.toNatClampNeg)) else (f_R_down (k_a (cK rb.toNatClampNeg)))) = (f_R_down (k_a (cK rb.toNatClampNeg)))).symm
    · -- 36: not taken
      refine lv_iload_n hx hb d_R_bound_39 rfl (lv_at hl 2 rfl) ?_
      refine lv_goto (tgt := 48) hx hb d_R_bound_40 rfl ?_
      exact k_48 _ ((if_pos h_36).trans (rfl) : (if (f_R_exact (k_a (cK rb.toNatClampNeg)) ((k_a (cK rb.toNatClampNeg)) + (k_a (cK rc.toNatClampNeg)))) = true then (k_a (cK rb.toNatClampNeg)) else (f_R_down (k_a (cK rb.toNatClampNeg)))) = k_a (cK rb.toNatClampNeg)).symm
def f_R_derive (co : Int32) (ra : Int32) (rb : Int32) (rc : Int32) (im : Int32) (cK : Nat → Cp) : (Nat → Cp) :=
  if co = (8 : Int32) then (f_R_copy (f_R_move (f_R_copy cK (if co = (31 : Int32) then (8 : Int32) else rb) (11 : Int32)) (11 : Int32) (k_a ((f_R_copy cK (if co = (31 : Int32) then (8 : Int32) else rb) (11 : Int32)) rc.toNatClampNeg))) (11 : Int32) ra)
  else if co = (9 : Int32) then (f_R_copy (f_R_move (f_R_copy cK (if co = (31 : Int32) then (8 : Int32) else rb) (11 : Int32)) (11 : Int32) ((k_a ((f_R_copy cK (if co = (31 : Int32) then (8 : Int32) else rb) (11 : Int32)) rb.toNatClampNeg)) + im)) (11 : Int32) ra)
  else if co = (10 : Int32) then (f_R_copy (f_R_bound rb rc (f_R_copy cK (if co = (31 : Int32) then (8 : Int32) else rb) (11 : Int32))) (11 : Int32) ra)
  else if co = (11 : Int32) then (f_R_copy (f_R_bound rb rc (f_R_copy cK (if co = (31 : Int32) then (8 : Int32) else rb) (11 : Int32))) (11 : Int32) ra)
  else if co = (12 : Int32) then (f_R_copy (va_up (f_R_copy cK (if co = (31 : Int32) then (8 : Int32) else rb) (11 : Int32)) ((11 : Int32).toNatClampNeg) (s_p ((f_R_copy cK (if co = (31 : Int32) then (8 : Int32) else rb) (11 : Int32)) ((11 : Int32).toNatClampNeg)) ((k_p ((f_R_copy cK (if co = (31 : Int32) then (8 : Int32) else rb) (11 : Int32)) ((11 : Int32).toNatClampNeg))) &&& (k_a ((f_R_copy cK (if co = (31 : Int32) then (8 : Int32) else rb) (11 : Int32)) rc.toNatClampNeg))))) (11 : Int32) ra)
  else if co = (13 : Int32) then (f_R_copy (va_up (f_R_copy cK (if co = (31 : Int32) then (8 : Int32) else rb) (11 : Int32)) ((11 : Int32).toNatClampNeg) (s_y ((f_R_copy cK (if co = (31 : Int32) then (8 : Int32) else rb) (11 : Int32)) ((11 : Int32).toNatClampNeg)) (k_a ((f_R_copy cK (if co = (31 : Int32) then (8 : Int32) else rb) (11 : Int32)) rc.toNatClampNeg)))) (11 : Int32) ra)
  else if co = (14 : Int32) then (f_R_copy (va_up (f_R_copy cK (if co = (31 : Int32) then (8 : Int32) else rb) (11 : Int32)) ((11 : Int32).toNatClampNeg) (s_y ((f_R_copy cK (if co = (31 : Int32) then (8 : Int32) else rb) (11 : Int32)) ((11 : Int32).toNatClampNeg)) (0 : Int32))) (11 : Int32) ra)
  else if co = (15 : Int32) then (f_R_copy (va_up (f_R_copy cK (if co = (31 : Int32) then (8 : Int32) else rb) (11 : Int32)) ((11 : Int32).toNatClampNeg) (s_y ((f_R_copy cK (if co = (31 : Int32) then (8 : Int32) else rb) (11 : Int32)) ((11 : Int32).toNatClampNeg)) (1 : Int32))) (11 : Int32) ra)
  else if co = (29 : Int32) then (f_R_copy (va_up (f_R_copy cK (if co = (31 : Int32) then (8 : Int32) else rb) (11 : Int32)) ((11 : Int32).toNatClampNeg) (s_v ((f_R_copy cK (if co = (31 : Int32) then (8 : Int32) else rb) (11 : Int32)) ((11 : Int32).toNatClampNeg)) false)) (11 : Int32) ra)
  else if co = (31 : Int32) then (f_R_copy (f_R_move (f_R_copy cK (if co = (31 : Int32) then (8 : Int32) else rb) (11 : Int32)) (11 : Int32) ((k_a ((f_R_copy cK (if co = (31 : Int32) then (8 : Int32) else rb) (11 : Int32)) ((8 : Int32).toNatClampNeg))) + ((4 : Int32) * im))) (11 : Int32) ra)
  else (f_R_copy (f_R_copy cK (if co = (31 : Int32) then (8 : Int32) else rb) (11 : Int32)) (11 : Int32) ra)
set_option maxHeartbeats 4000000 in
set_option maxRecDepth 100000 in
theorem c_R_derive (l : Launch) (D : va_G) (q : Nat → ClassId) (xa : Nat → Nat) (th : Int32) (ca : Int32) (st : Int32) (co : Int32) (ra : Int32) (rb : Int32) (rc : Int32) (im : Int32) (hf : Int32) (rz : Bool) (fM : Nat → Int32) (gT : Nat → Bool) (cK : Nat → Cp) (A : Nat → Prop) (hD : va_D A (rW q xa th ca st co ra rb rc im hf rz fM gT cK)) (hra : vp_in ra 12) (hrb : vp_in rb 12) (hrc : vp_in rc 12) : WMv l y_R_derive b_R_derive 1 none ({ frames := 2, cells := 0, slots := 0, locals := 47 }) [.ref (xa 0)] D (tyR q) (rW q xa th ca st co ra rb rc im hf rz fM gT cK) (rW q xa th ca st co ra rb rc im hf rz fM gT (f_R_derive co ra rb rc im cK)) A := by
  refine ofV (by decide) (Nat.le_of_ble_eq_true rfl) ?_
  intro p e s m below meth c ls S hr hlocks hK hN hP hl
  have hx := S.1
  have hb := S.2.1
  have hS : va_S A s.heap s.heap [] := va_S.rf
  have hl : lv_has ls 1 [(0, .ref (xa 0))] := hl
  refine lv_aload_n hx hb d_R_derive_0 rfl (lv_at hl 0 rfl) ?_
  refine lv_aload_n hx hb d_R_derive_1 rfl (lv_at hl 0 rfl) ?_
  refine r_get S hK hP 11 (by decide) fl_R_72 rfl d_R_derive_2 ?_
  refine lv_bipush (v := (31 : Int32)) hx hb d_R_derive_5 (by decide) ?_
  refine jn 19 ls [.ref (xa 0)] (if co = (31 : Int32) then (8 : Int32) else rb) ?_ (fun k_19 => ?_)
  · -- from 19 on
    refine lv_bipush (v := (11 : Int32)) hx hb d_R_derive_19 (by decide) ?_
    refine c_vV [] S (c_R_copy l _ _ _ _ _ _ _ _ _ _ _ _ _ _ _ _ A (rW_D hD) (if co = (31 : Int32) then (8 : Int32) else rb) (11 : Int32) (by first | assumption | exact in_k rfl | exact in_31 (by assumption)) (by first | assumption | exact in_k rfl | exact in_31 (by assumption))) mf_R_copy ml_R_134 hK hN hP hS 0 3 rfl rfl ⟨rfl, rfl, Nat.le_of_ble_eq_true rfl, Nat.le_of_ble_eq_true rfl⟩ rfl hl.1 rfl (Nat.le_of_ble_eq_true rfl) d_R_derive_21 ⟨Nat.zero_le _, Nat.zero_le _⟩ (fun H locs hP hS => ?_)
    refine lv_aload_n hx hb d_R_derive_24 rfl (lv_at hl 0 rfl) ?_
    refine r_get S hK hP 11 (by decide) fl_R_72 rfl d_R_derive_25 ?_
    by_cases h_28_8 : co = (8 : Int32)
    · -- 28: case 8
      refine t_in (8 : Int32) (off := 112) (tgt := 140) hx hb d_R_derive_28 h_28_8 (by decide) (by decide) (by decide) rfl ?_
      refine lv_aload_n hx hb d_R_derive_140 rfl (lv_at hl 0 rfl) ?_
      refine lv_bipush (v := (11 : Int32)) hx hb d_R_derive_141 (by decide) ?_
      refine lv_aload_n hx hb d_R_derive_143 rfl (lv_at hl 0 rfl) ?_
      refine r_get S hK hP 6 (by decide) fl_R_26 rfl d_R_derive_144 ?_
      refine lv_aload_n hx hb d_R_derive_147 rfl (lv_at hl 0 rfl) ?_
      refine r_get S hK hP 14 (by decide) fl_R_60 rfl d_R_derive_148 ?_
      refine r_ald_a S hK hP (by first | assumption | exact and7_in _) d_R_derive_151 ?_
      refine c_vV [] S (c_R_move l _ _ _ _ _ _ _ _ _ _ _ _ _ _ _ _ A (rW_D hD) (11 : Int32) (k_a ((f_R_copy cK (if co = (31 : Int32) then (8 : Int32) else rb) (11 : Int32)) rc.toNatClampNeg)) (by first | assumption | exact in_k rfl | exact in_31 (by assumption))) mf_R_move ml_R_137 hK hN hP hS 0 3 rfl rfl ⟨rfl, rfl, Nat.le_of_ble_eq_true rfl, Nat.le_of_ble_eq_true rfl⟩ rfl hl.1 rfl (Nat.le_of_ble_eq_true rfl) d_R_derive_152 ⟨Nat.zero_le _, Nat.zero_le _⟩ (fun H locs hP hS => ?_)
      refine lv_goto (tgt := 285) hx hb d_R_derive_155 rfl ?_
      refine lv_aload_n hx hb d_R_derive_285 rfl (lv_at hl 0 rfl) ?_
      refine lv_bipush (v := (11 : Int32)) hx hb d_R_derive_286 (by decide) ?_
      refine lv_aload_n hx hb d_R_derive_288 rfl (lv_at hl 0 rfl) ?_
      refine r_get S hK hP 12 (by decide) fl_R_79 rfl d_R_derive_289 ?_
      refine c_vV [] S (c_R_copy l _ _ _ _ _ _ _ _ _ _ _ _ _ _ _ _ A (rW_D hD) (11 : Int32) ra (by first | assumption | exact in_k rfl | exact in_31 (by assumption)) (by first | assumption | exact in_k rfl | exact in_31 (by assumption))) mf_R_copy ml_R_134 hK hN hP hS 0 3 rfl rfl ⟨rfl, rfl, Nat.le_of_ble_eq_true rfl, Nat.le_of_ble_eq_true rfl⟩ rfl hl.1 rfl (Nat.le_of_ble_eq_true rfl) d_R_derive_292 ⟨Nat.zero_le _, Nat.zero_le _⟩ (fun H locs hP hS => ?_)
      have hF : f_R_derive co ra rb rc im cK = (f_R_copy (f_R_move (f_R_copy cK (if co = (31 : Int32) then (8 : Int32) else rb) (11 : Int32)) (11 : Int32) (k_a ((f_R_copy cK (if co = (31 : Int32) then (8 : Int32) else rb) (11 : Int32)) rc.toNatClampNeg))) (11 : Int32) ra) := (if_pos h_28_8).trans (rfl)
      exact e_wv S hr hlocks hP hS (congrArg (fun z => rW q xa th ca st co ra rb rc im hf rz fM gT z) hF.symm) d_R_derive_295
    by_cases h_28_9 : co = (9 : Int32)
    · -- 28: case 9
      refine t_in (9 : Int32) (off := 130) (tgt := 158) hx hb d_R_derive_28 h_28_9 (by decide) (by decide) (by decide) rfl ?_
      refine lv_aload_n hx hb d_R_derive_158 rfl (lv_at hl 0 rfl) ?_
      refine lv_bipush (v := (11 : Int32)) hx hb d_R_derive_159 (by decide) ?_
      refine lv_aload_n hx hb d_R_derive_161 rfl (lv_at hl 0 rfl) ?_
      refine r_get S hK hP 6 (by decide) fl_R_26 rfl d_R_derive_162 ?_
      refine lv_aload_n hx hb d_R_derive_165 rfl (lv_at hl 0 rfl) ?_
      refine r_get S hK hP 13 (by decide) fl_R_57 rfl d_R_derive_166 ?_
      refine r_ald_a S hK hP (by first | assumption | exact and7_in _) d_R_derive_169 ?_
      refine lv_aload_n hx hb d_R_derive_170 rfl (lv_at hl 0 rfl) ?_
      refine r_get S hK hP 15 (by decide) fl_R_82 rfl d_R_derive_171 ?_
      refine lv_iadd hx hb d_R_derive_174 ?_
      refine c_vV [] S (c_R_move l _ _ _ _ _ _ _ _ _ _ _ _ _ _ _ _ A (rW_D hD) (11 : Int32) ((k_a ((f_R_copy cK (if co = (31 : Int32) then (8 : Int32) else rb) (11 : Int32)) rb.toNatClampNeg)) + im) (by first | assumption | exact in_k rfl | exact in_31 (by assumption))) mf_R_move ml_R_137 hK hN hP hS 0 3 rfl rfl ⟨rfl, rfl, Nat.le_of_ble_eq_true rfl, Nat.le_of_ble_eq_true rfl⟩ rfl hl.1 rfl (Nat.le_of_ble_eq_true rfl) d_R_derive_175 ⟨Nat.zero_le _, Nat.zero_le _⟩ (fun H locs hP hS => ?_)
      refine lv_goto (tgt := 285) hx hb d_R_derive_178 rfl ?_
      refine lv_aload_n hx hb d_R_derive_285 rfl (lv_at hl 0 rfl) ?_
      refine lv_bipush (v := (11 : Int32)) hx hb d_R_derive_286 (by decide) ?_
      refine lv_aload_n hx hb d_R_derive_288 rfl (lv_at hl 0 rfl) ?_
      refine r_get S hK hP 12 (by decide) fl_R_79 rfl d_R_derive_289 ?_
      refine c_vV [] S (c_R_copy l _ _ _ _ _ _ _ _ _ _ _ _ _ _ _ _ A (rW_D hD) (11 : Int32) ra (by first | assumption | exact in_k rfl | exact in_31 (by assumption)) (by first | assumption | exact in_k rfl | exact in_31 (by assumption))) mf_R_copy ml_R_134 hK hN hP hS 0 3 rfl rfl ⟨rfl, rfl, Nat.le_of_ble_eq_true rfl, Nat.le_of_ble_eq_true rfl⟩ rfl hl.1 rfl (Nat.le_of_ble_eq_true rfl) d_R_derive_292 ⟨Nat.zero_le _, Nat.zero_le _⟩ (fun H locs hP hS => ?_)
      have hF : f_R_derive co ra rb rc im cK = (f_R_copy (f_R_move (f_R_copy cK (if co = (31 : Int32) then (8 : Int32) else rb) (11 : Int32)) (11 : Int32) ((k_a ((f_R_copy cK (if co = (31 : Int32) then (8 : Int32) else rb) (11 : Int32)) rb.toNatClampNeg)) + im)) (11 : Int32) ra) := (if_neg h_28_8).trans ((if_pos h_28_9).trans (rfl))
      exact e_wv S hr hlocks hP hS (congrArg (fun z => rW q xa th ca st co ra rb rc im hf rz fM gT z) hF.symm) d_R_derive_295
    by_cases h_28_10 : co = (10 : Int32)
    · -- 28: case 10
      refine t_in (10 : Int32) (off := 153) (tgt := 181) hx hb d_R_derive_28 h_28_10 (by decide) (by decide) (by decide) rfl ?_
      refine lv_aload_n hx hb d_R_derive_181 rfl (lv_at hl 0 rfl) ?_
      refine c_vV [] S (c_R_bound l _ _ _ _ _ _ _ _ _ _ _ _ _ _ _ _ A (rW_D hD) (by first | assumption | exact in_k rfl | exact in_31 (by assumption)) (by first | assumption | exact in_k rfl | exact in_31 (by assumption))) mf_R_bound ml_R_140 hK hN hP hS 0 3 rfl rfl ⟨rfl, rfl, Nat.le_of_ble_eq_true rfl, Nat.le_of_ble_eq_true rfl⟩ rfl hl.1 rfl (Nat.le_of_ble_eq_true rfl) d_R_derive_182 ⟨Nat.zero_le _, Nat.zero_le _⟩ (fun H locs hP hS => ?_)
      refine lv_goto (tgt := 285) hx hb d_R_derive_185 rfl ?_
      refine lv_aload_n hx hb d_R_derive_285 rfl (lv_at hl 0 rfl) ?_
      refine lv_bipush (v := (11 : Int32)) hx hb d_R_derive_286 (by decide) ?_
      refine lv_aload_n hx hb d_R_derive_288 rfl (lv_at hl 0 rfl) ?_
      refine r_get S hK hP 12 (by decide) fl_R_79 rfl d_R_derive_289 ?_
      refine c_vV [] S (c_R_copy l _ _ _ _ _ _ _ _ _ _ _ _ _ _ _ _ A (rW_D hD) (11 : Int32) ra (by first | assumption | exact in_k rfl | exact in_31 (by assumption)) (by first | assumption | exact in_k rfl | exact in_31 (by assumption))) mf_R_copy ml_R_134 hK hN hP hS 0 3 rfl rfl ⟨rfl, rfl, Nat.le_of_ble_eq_true rfl, Nat.le_of_ble_eq_true rfl⟩ rfl hl.1 rfl (Nat.le_of_ble_eq_true rfl) d_R_derive_292 ⟨Nat.zero_le _, Nat.zero_le _⟩ (fun H locs hP hS => ?_)
      have hF : f_R_derive co ra rb rc im cK = (f_R_copy (f_R_bound rb rc (f_R_copy cK (if co = (31 : Int32) then (8 : Int32) else rb) (11 : Int32))) (11 : Int32) ra) := (if_neg h_28_8).trans ((if_neg h_28_9).trans ((if_pos h_28_10).trans (rfl)))
      exact e_wv S hr hlocks hP hS (congrArg (fun z => rW q xa th ca st co ra rb rc im hf rz fM gT z) hF.symm) d_R_derive_295
    by_cases h_28_11 : co = (11 : Int32)
    · -- 28: case 11
      refine t_in (11 : Int32) (off := 153) (tgt := 181) hx hb d_R_derive_28 h_28_11 (by decide) (by decide) (by decide) rfl ?_
      refine lv_aload_n hx hb d_R_derive_181 rfl (lv_at hl 0 rfl) ?_
      refine c_vV [] S (c_R_bound l _ _ _ _ _ _ _ _ _ _ _ _ _ _ _ _ A (rW_D hD) (by first | assumption | exact in_k rfl | exact in_31 (by assumption)) (by first | assumption | exact in_k rfl | exact in_31 (by assumption))) mf_R_bound ml_R_140 hK hN hP hS 0 3 rfl rfl ⟨rfl, rfl, Nat.le_of_ble_eq_true rfl, Nat.le_of_ble_eq_true rfl⟩ rfl hl.1 rfl (Nat.le_of_ble_eq_true rfl) d_R_derive_182 ⟨Nat.zero_le _, Nat.zero_le _⟩ (fun H locs hP hS => ?_)
      refine lv_goto (tgt := 285) hx hb d_R_derive_185 rfl ?_
      refine lv_aload_n hx hb d_R_derive_285 rfl (lv_at hl 0 rfl) ?_
      refine lv_bipush (v := (11 : Int32)) hx hb d_R_derive_286 (by decide) ?_
      refine lv_aload_n hx hb d_R_derive_288 rfl (lv_at hl 0 rfl) ?_
      refine r_get S hK hP 12 (by decide) fl_R_79 rfl d_R_derive_289 ?_
      refine c_vV [] S (c_R_copy l _ _ _ _ _ _ _ _ _ _ _ _ _ _ _ _ A (rW_D hD) (11 : Int32) ra (by first | assumption | exact in_k rfl | exact in_31 (by assumption)) (by first | assumption | exact in_k rfl | exact in_31 (by assumption))) mf_R_copy ml_R_134 hK hN hP hS 0 3 rfl rfl ⟨rfl, rfl, Nat.le_of_ble_eq_true rfl, Nat.le_of_ble_eq_true rfl⟩ rfl hl.1 rfl (Nat.le_of_ble_eq_true rfl) d_R_derive_292 ⟨Nat.zero_le _, Nat.zero_le _⟩ (fun H locs hP hS => ?_)
      have hF : f_R_derive co ra rb rc im cK = (f_R_copy (f_R_bound rb rc (f_R_copy cK (if co = (31 : Int32) then (8 : Int32) else rb) (11 : Int32))) (11 : Int32) ra) := (if_neg h_28_8).trans ((if_neg h_28_9).trans ((if_neg h_28_10).trans ((if_pos h_28_11).trans (rfl))))
      exact e_wv S hr hlocks hP hS (congrArg (fun z => rW q xa th ca st co ra rb rc im hf rz fM gT z) hF.symm) d_R_derive_295
    by_cases h_28_12 : co = (12 : Int32)
    · -- 28: case 12
      refine t_in (12 : Int32) (off := 160) (tgt := 188) hx hb d_R_derive_28 h_28_12 (by decide) (by decide) (by decide) rfl ?_
      refine lv_aload_n hx hb d_R_derive_188 rfl (lv_at hl 0 rfl) ?_
      refine r_get S hK hP 7 (by decide) fl_R_29 rfl d_R_derive_189 ?_
      refine lv_bipush (v := (11 : Int32)) hx hb d_R_derive_192 (by decide) ?_
      refine lv_dup2_11 hx hb d_R_derive_194 rfl rfl ?_
      refine r_ald_p S hK hP (in_k rfl) d_R_derive_195 ?_
      refine lv_aload_n hx hb d_R_derive_196 rfl (lv_at hl 0 rfl) ?_
      refine r_get S hK hP 6 (by decide) fl_R_26 rfl d_R_derive_197 ?_
      refine lv_aload_n hx hb d_R_derive_200 rfl (lv_at hl 0 rfl) ?_
      refine r_get S hK hP 14 (by decide) fl_R_60 rfl d_R_derive_201 ?_
      refine r_ald_a S hK hP (by first | assumption | exact and7_in _) d_R_derive_204 ?_
      refine lv_iand hx hb d_R_derive_205 ?_
      refine r_ast_p S hK hP (rW_D hD) hS (in_k rfl) d_R_derive_206 (fun H locs hP hS => ?_)
      refine lv_goto (tgt := 285) hx hb d_R_derive_207 rfl ?_
      refine lv_aload_n hx hb d_R_derive_285 rfl (lv_at hl 0 rfl) ?_
      refine lv_bipush (v := (11 : Int32)) hx hb d_R_derive_286 (by decide) ?_
      refine lv_aload_n hx hb d_R_derive_288 rfl (lv_at hl 0 rfl) ?_
      refine r_get S hK hP 12 (by decide) fl_R_79 rfl d_R_derive_289 ?_
      refine c_vV [] S (c_R_copy l _ _ _ _ _ _ _ _ _ _ _ _ _ _ _ _ A (rW_D hD) (11 : Int32) ra (by first | assumption | exact in_k rfl | exact in_31 (by assumption)) (by first | assumption | exact in_k rfl | exact in_31 (by assumption))) mf_R_copy ml_R_134 hK hN hP hS 0 3 rfl rfl ⟨rfl, rfl, Nat.le_of_ble_eq_true rfl, Nat.le_of_ble_eq_true rfl⟩ rfl hl.1 rfl (Nat.le_of_ble_eq_true rfl) d_R_derive_292 ⟨Nat.zero_le _, Nat.zero_le _⟩ (fun H locs hP hS => ?_)
      have hF : f_R_derive co ra rb rc im cK = (f_R_copy (va_up (f_R_copy cK (if co = (31 : Int32) then (8 : Int32) else rb) (11 : Int32)) ((11 : Int32).toNatClampNeg) (s_p ((f_R_copy cK (if co = (31 : Int32) then (8 : Int32) else rb) (11 : Int32)) ((11 : Int32).toNatClampNeg)) ((k_p ((f_R_copy cK (if co = (31 : Int32) then (8 : Int32) else rb) (11 : Int32)) ((11 : Int32).toNatClampNeg))) &&& (k_a ((f_R_copy cK (if co = (31 : Int32) then (8 : Int32) else rb) (11 : Int32)) rc.toNatClampNeg))))) (11 : Int32) ra) := (if_neg h_28_8).trans ((if_neg h_28_9).trans ((if_neg h_28_10).trans ((if_neg h_28_11).trans ((if_pos h_28_12).trans (rfl)))))
      exact e_wv S hr hlocks hP hS (congrArg (fun z => rW q xa th ca st co ra rb rc im hf rz fM gT z) hF.symm) d_R_derive_295
    by_cases h_28_13 : co = (13 : Int32)
    · -- 28: case 13
      refine t_in (13 : Int32) (off := 182) (tgt := 210) hx hb d_R_derive_28 h_28_13 (by decide) (by decide) (by decide) rfl ?_
      refine lv_aload_n hx hb d_R_derive_210 rfl (lv_at hl 0 rfl) ?_
      refine r_get S hK hP 8 (by decide) fl_R_32 rfl d_R_derive_211 ?_
      refine lv_bipush (v := (11 : Int32)) hx hb d_R_derive_214 (by decide) ?_
      refine lv_aload_n hx hb d_R_derive_216 rfl (lv_at hl 0 rfl) ?_
      refine r_get S hK hP 6 (by decide) fl_R_26 rfl d_R_derive_217 ?_
      refine lv_aload_n hx hb d_R_derive_220 rfl (lv_at hl 0 rfl) ?_
      refine r_get S hK hP 14 (by decide) fl_R_60 rfl d_R_derive_221 ?_
      refine r_ald_a S hK hP (by first | assumption | exact and7_in _) d_R_derive_224 ?_
      refine r_ast_y S hK hP (rW_D hD) hS (in_k rfl) d_R_derive_225 (fun H locs hP hS => ?_)
      refine lv_goto (tgt := 285) hx hb d_R_derive_226 rfl ?_
      refine lv_aload_n hx hb d_R_derive_285 rfl (lv_at hl 0 rfl) ?_
      refine lv_bipush (v := (11 : Int32)) hx hb d_R_derive_286 (by decide) ?_
      refine lv_aload_n hx hb d_R_derive_288 rfl (lv_at hl 0 rfl) ?_
      refine r_get S hK hP 12 (by decide) fl_R_79 rfl d_R_derive_289 ?_
      refine c_vV [] S (c_R_copy l _ _ _ _ _ _ _ _ _ _ _ _ _ _ _ _ A (rW_D hD) (11 : Int32) ra (by first | assumption | exact in_k rfl | exact in_31 (by assumption)) (by first | assumption | exact in_k rfl | exact in_31 (by assumption))) mf_R_copy ml_R_134 hK hN hP hS 0 3 rfl rfl ⟨rfl, rfl, Nat.le_of_ble_eq_true rfl, Nat.le_of_ble_eq_true rfl⟩ rfl hl.1 rfl (Nat.le_of_ble_eq_true rfl) d_R_derive_292 ⟨Nat.zero_le _, Nat.zero_le _⟩ (fun H locs hP hS => ?_)
      have hF : f_R_derive co ra rb rc im cK = (f_R_copy (va_up (f_R_copy cK (if co = (31 : Int32) then (8 : Int32) else rb) (11 : Int32)) ((11 : Int32).toNatClampNeg) (s_y ((f_R_copy cK (if co = (31 : Int32) then (8 : Int32) else rb) (11 : Int32)) ((11 : Int32).toNatClampNeg)) (k_a ((f_R_copy cK (if co = (31 : Int32) then (8 : Int32) else rb) (11 : Int32)) rc.toNatClampNeg)))) (11 : Int32) ra) := (if_neg h_28_8).trans ((if_neg h_28_9).trans ((if_neg h_28_10).trans ((if_neg h_28_11).trans ((if_neg h_28_12).trans ((if_pos h_28_13).trans (rfl))))))
      exact e_wv S hr hlocks hP hS (congrArg (fun z => rW q xa th ca st co ra rb rc im hf rz fM gT z) hF.symm) d_R_derive_295
    by_cases h_28_14 : co = (14 : Int32)
    · -- 28: case 14
      refine t_in (14 : Int32) (off := 201) (tgt := 229) hx hb d_R_derive_28 h_28_14 (by decide) (by decide) (by decide) rfl ?_
      refine lv_aload_n hx hb d_R_derive_229 rfl (lv_at hl 0 rfl) ?_
      refine r_get S hK hP 8 (by decide) fl_R_32 rfl d_R_derive_230 ?_
      refine lv_bipush (v := (11 : Int32)) hx hb d_R_derive_233 (by decide) ?_
      refine lv_iconst (v := (0 : Int32)) hx hb d_R_derive_235 (by decide) ?_
      refine r_ast_y S hK hP (rW_D hD) hS (in_k rfl) d_R_derive_236 (fun H locs hP hS => ?_)
      refine lv_goto (tgt := 285) hx hb d_R_derive_237 rfl ?_
      refine lv_aload_n hx hb d_R_derive_285 rfl (lv_at hl 0 rfl) ?_
      refine lv_bipush (v := (11 : Int32)) hx hb d_R_derive_286 (by decide) ?_
      refine lv_aload_n hx hb d_R_derive_288 rfl (lv_at hl 0 rfl) ?_
      refine r_get S hK hP 12 (by decide) fl_R_79 rfl d_R_derive_289 ?_
      refine c_vV [] S (c_R_copy l _ _ _ _ _ _ _ _ _ _ _ _ _ _ _ _ A (rW_D hD) (11 : Int32) ra (by first | assumption | exact in_k rfl | exact in_31 (by assumption)) (by first | assumption | exact in_k rfl | exact in_31 (by assumption))) mf_R_copy ml_R_134 hK hN hP hS 0 3 rfl rfl ⟨rfl, rfl, Nat.le_of_ble_eq_true rfl, Nat.le_of_ble_eq_true rfl⟩ rfl hl.1 rfl (Nat.le_of_ble_eq_true rfl) d_R_derive_292 ⟨Nat.zero_le _, Nat.zero_le _⟩ (fun H locs hP hS => ?_)
      have hF : f_R_derive co ra rb rc im cK = (f_R_copy (va_up (f_R_copy cK (if co = (31 : Int32) then (8 : Int32) else rb) (11 : Int32)) ((11 : Int32).toNatClampNeg) (s_y ((f_R_copy cK (if co = (31 : Int32) then (8 : Int32) else rb) (11 : Int32)) ((11 : Int32).toNatClampNeg)) (0 : Int32))) (11 : Int32) ra) := (if_neg h_28_8).trans ((if_neg h_28_9).trans ((if_neg h_28_10).trans ((if_neg h_28_11).trans ((if_neg h_28_12).trans ((if_neg h_28_13).trans ((if_pos h_28_14).trans (rfl)))))))
      exact e_wv S hr hlocks hP hS (congrArg (fun z => rW q xa th ca st co ra rb rc im hf rz fM gT z) hF.symm) d_R_derive_295
    by_cases h_28_15 : co = (15 : Int32)
    · -- 28: case 15
      refine t_in (15 : Int32) (off := 212) (tgt := 240) hx hb d_R_derive_28 h_28_15 (by decide) (by decide) (by decide) rfl ?_
      refine lv_aload_n hx hb d_R_derive_240 rfl (lv_at hl 0 rfl) ?_
      refine r_get S hK hP 8 (by decide) fl_R_32 rfl d_R_derive_241 ?_
      refine lv_bipush (v := (11 : Int32)) hx hb d_R_derive_244 (by decide) ?_
      refine lv_iconst (v := (1 : Int32)) hx hb d_R_derive_246 (by decide) ?_
      refine r_ast_y S hK hP (rW_D hD) hS (in_k rfl) d_R_derive_247 (fun H locs hP hS => ?_)
      refine lv_goto (tgt := 285) hx hb d_R_derive_248 rfl ?_
      refine lv_aload_n hx hb d_R_derive_285 rfl (lv_at hl 0 rfl) ?_
      refine lv_bipush (v := (11 : Int32)) hx hb d_R_derive_286 (by decide) ?_
      refine lv_aload_n hx hb d_R_derive_288 rfl (lv_at hl 0 rfl) ?_
      refine r_get S hK hP 12 (by decide) fl_R_79 rfl d_R_derive_289 ?_
      refine c_vV [] S (c_R_copy l _ _ _ _ _ _ _ _ _ _ _ _ _ _ _ _ A (rW_D hD) (11 : Int32) ra (by first | assumption | exact in_k rfl | exact in_31 (by assumption)) (by first | assumption | exact in_k rfl | exact in_31 (by assumption))) mf_R_copy ml_R_134 hK hN hP hS 0 3 rfl rfl ⟨rfl, rfl, Nat.le_of_ble_eq_true rfl, Nat.le_of_ble_eq_true rfl⟩ rfl hl.1 rfl (Nat.le_of_ble_eq_true rfl) d_R_derive_292 ⟨Nat.zero_le _, Nat.zero_le _⟩ (fun H locs hP hS => ?_)
      have hF : f_R_derive co ra rb rc im cK = (f_R_copy (va_up (f_R_copy cK (if co = (31 : Int32) then (8 : Int32) else rb) (11 : Int32)) ((11 : Int32).toNatClampNeg) (s_y ((f_R_copy cK (if co = (31 : Int32) then (8 : Int32) else rb) (11 : Int32)) ((11 : Int32).toNatClampNeg)) (1 : Int32))) (11 : Int32) ra) := (if_neg h_28_8).trans ((if_neg h_28_9).trans ((if_neg h_28_10).trans ((if_neg h_28_11).trans ((if_neg h_28_12).trans ((if_neg h_28_13).trans ((if_neg h_28_14).trans ((if_pos h_28_15).trans (rfl))))))))
      exact e_wv S hr hlocks hP hS (congrArg (fun z => rW q xa th ca st co ra rb rc im hf rz fM gT z) hF.symm) d_R_derive_295
    by_cases h_28_29 : co = (29 : Int32)
    · -- 28: case 29
      refine t_in (29 : Int32) (off := 223) (tgt := 251) hx hb d_R_derive_28 h_28_29 (by decide) (by decide) (by decide) rfl ?_
      refine lv_aload_n hx hb d_R_derive_251 rfl (lv_at hl 0 rfl) ?_
      refine r_get S hK hP 3 (by decide) fl_R_17 rfl d_R_derive_252 ?_
      refine lv_bipush (v := (11 : Int32)) hx hb d_R_derive_255 (by decide) ?_
      refine lv_iconst (v := (0 : Int32)) hx hb d_R_derive_257 (by decide) ?_
      refine r_ast_v (z := false) S hK hP (rW_D hD) hS (in_k rfl) d_R_derive_258 (fun H locs hP hS => ?_)
      refine lv_goto (tgt := 285) hx hb d_R_derive_259 rfl ?_
      refine lv_aload_n hx hb d_R_derive_285 rfl (lv_at hl 0 rfl) ?_
      refine lv_bipush (v := (11 : Int32)) hx hb d_R_derive_286 (by decide) ?_
      refine lv_aload_n hx hb d_R_derive_288 rfl (lv_at hl 0 rfl) ?_
      refine r_get S hK hP 12 (by decide) fl_R_79 rfl d_R_derive_289 ?_
      refine c_vV [] S (c_R_copy l _ _ _ _ _ _ _ _ _ _ _ _ _ _ _ _ A (rW_D hD) (11 : Int32) ra (by first | assumption | exact in_k rfl | exact in_31 (by assumption)) (by first | assumption | exact in_k rfl | exact in_31 (by assumption))) mf_R_copy ml_R_134 hK hN hP hS 0 3 rfl rfl ⟨rfl, rfl, Nat.le_of_ble_eq_true rfl, Nat.le_of_ble_eq_true rfl⟩ rfl hl.1 rfl (Nat.le_of_ble_eq_true rfl) d_R_derive_292 ⟨Nat.zero_le _, Nat.zero_le _⟩ (fun H locs hP hS => ?_)
      have hF : f_R_derive co ra rb rc im cK = (f_R_copy (va_up (f_R_copy cK (if co = (31 : Int32) then (8 : Int32) else rb) (11 : Int32)) ((11 : Int32).toNatClampNeg) (s_v ((f_R_copy cK (if co = (31 : Int32) then (8 : Int32) else rb) (11 : Int32)) ((11 : Int32).toNatClampNeg)) false)) (11 : Int32) ra) := (if_neg h_28_8).trans ((if_neg h_28_9).trans ((if_neg h_28_10).trans ((if_neg h_28_11).trans ((if_neg h_28_12).trans ((if_neg h_28_13).trans ((if_neg h_28_14).trans ((if_neg h_28_15).trans ((if_pos h_28_29).trans (rfl)))))))))
      exact e_wv S hr hlocks hP hS (congrArg (fun z => rW q xa th ca st co ra rb rc im hf rz fM gT z) hF.symm) d_R_derive_295
    by_cases h_28_31 : co = (31 : Int32)
    · -- 28: case 31
      refine t_in (31 : Int32) (off := 234) (tgt := 262) hx hb d_R_derive_28 h_28_31 (by decide) (by decide) (by decide) rfl ?_
      refine lv_aload_n hx hb d_R_derive_262 rfl (lv_at hl 0 rfl) ?_
      refine lv_bipush (v := (11 : Int32)) hx hb d_R_derive_263 (by decide) ?_
      refine lv_aload_n hx hb d_R_derive_265 rfl (lv_at hl 0 rfl) ?_
      refine r_get S hK hP 6 (by decide) fl_R_26 rfl d_R_derive_266 ?_
      refine lv_bipush (v := (8 : Int32)) hx hb d_R_derive_269 (by decide) ?_
      refine r_ald_a S hK hP (in_k rfl) d_R_derive_271 ?_
      refine lv_iconst (v := (4 : Int32)) hx hb d_R_derive_272 (by decide) ?_
      refine lv_aload_n hx hb d_R_derive_273 rfl (lv_at hl 0 rfl) ?_
      refine r_get S hK hP 15 (by decide) fl_R_82 rfl d_R_derive_274 ?_
      refine lv_imul hx hb d_R_derive_277 ?_
      refine lv_iadd hx hb d_R_derive_278 ?_
      refine c_vV [] S (c_R_move l _ _ _ _ _ _ _ _ _ _ _ _ _ _ _ _ A (rW_D hD) (11 : Int32) ((k_a ((f_R_copy cK (if co = (31 : Int32) then (8 : Int32) else rb) (11 : Int32)) ((8 : Int32).toNatClampNeg))) + ((4 : Int32) * im)) (by first | assumption | exact in_k rfl | exact in_31 (by assumption))) mf_R_move ml_R_137 hK hN hP hS 0 3 rfl rfl ⟨rfl, rfl, Nat.le_of_ble_eq_true rfl, Nat.le_of_ble_eq_true rfl⟩ rfl hl.1 rfl (Nat.le_of_ble_eq_true rfl) d_R_derive_279 ⟨Nat.zero_le _, Nat.zero_le _⟩ (fun H locs hP hS => ?_)
      refine lv_goto (tgt := 285) hx hb d_R_derive_282 rfl ?_
      refine lv_aload_n hx hb d_R_derive_285 rfl (lv_at hl 0 rfl) ?_
      refine lv_bipush (v := (11 : Int32)) hx hb d_R_derive_286 (by decide) ?_
      refine lv_aload_n hx hb d_R_derive_288 rfl (lv_at hl 0 rfl) ?_
      refine r_get S hK hP 12 (by decide) fl_R_79 rfl d_R_derive_289 ?_
      refine c_vV [] S (c_R_copy l _ _ _ _ _ _ _ _ _ _ _ _ _ _ _ _ A (rW_D hD) (11 : Int32) ra (by first | assumption | exact in_k rfl | exact in_31 (by assumption)) (by first | assumption | exact in_k rfl | exact in_31 (by assumption))) mf_R_copy ml_R_134 hK hN hP hS 0 3 rfl rfl ⟨rfl, rfl, Nat.le_of_ble_eq_true rfl, Nat.le_of_ble_eq_true rfl⟩ rfl hl.1 rfl (Nat.le_of_ble_eq_true rfl) d_R_derive_292 ⟨Nat.zero_le _, Nat.zero_le _⟩ (fun H locs hP hS => ?_)
      have hF : f_R_derive co ra rb rc im cK = (f_R_copy (f_R_move (f_R_copy cK (if co = (31 : Int32) then (8 : Int32) else rb) (11 : Int32)) (11 : Int32) ((k_a ((f_R_copy cK (if co = (31 : Int32) then (8 : Int32) else rb) (11 : Int32)) ((8 : Int32).toNatClampNeg))) + ((4 : Int32) * im))) (11 : Int32) ra) := (if_neg h_28_8).trans ((if_neg h_28_9).trans ((if_neg h_28_10).trans ((if_neg h_28_11).trans ((if_neg h_28_12).trans ((if_neg h_28_13).trans ((if_neg h_28_14).trans ((if_neg h_28_15).trans ((if_neg h_28_29).trans ((if_pos h_28_31).trans (rfl))))))))))
      exact e_wv S hr hlocks hP hS (congrArg (fun z => rW q xa th ca st co ra rb rc im hf rz fM gT z) hF.symm) d_R_derive_295
    refine t_no [8, 9, 10, 11, 12, 13, 14, 15, 29, 31] (tgt := 285) hx hb d_R_derive_28 (List.forall_mem_cons.mpr ⟨lv_neT h_28_8 (by decide), List.forall_mem_cons.mpr ⟨lv_neT h_28_9 (by decide), List.forall_mem_cons.mpr ⟨lv_neT h_28_10 (by decide), List.forall_mem_cons.mpr ⟨lv_neT h_28_11 (by decide), List.forall_mem_cons.mpr ⟨lv_neT h_28_12 (by decide), List.forall_mem_cons.mpr ⟨lv_neT h_28_13 (by decide), List.forall_mem_cons.mpr ⟨lv_neT h_28_14 (by decide), List.forall_mem_cons.mpr ⟨lv_neT h_28_15 (by decide), List.forall_mem_cons.mpr ⟨lv_neT h_28_29 (by decide), List.forall_mem_cons.mpr ⟨lv_neT h_28_31 (by decide), fun _ h => absurd h List.not_mem_nil⟩⟩⟩⟩⟩⟩⟩⟩⟩⟩) (by decide) rfl ?_
    refine lv_aload_n hx hb d_R_derive_285 rfl (lv_at hl 0 rfl) ?_
    refine lv_bipush (v := (11 : Int32)) hx hb d_R_derive_286 (by decide) ?_
    refine lv_aload_n hx hb d_R_derive_288 rfl (lv_at hl 0 rfl) ?_
    refine r_get S hK hP 12 (by decide) fl_R_79 rfl d_R_derive_289 ?_
    refine c_vV [] S (c_R_copy l _ _ _ _ _ _ _ _ _ _ _ _ _ _ _ _ A (rW_D hD) (11 : Int32) ra (by first | assumption | exact in_k rfl | exact in_31 (by assumption)) (by first | assumption | exact in_k rfl | exact in_31 (by assumption))) mf_R_copy ml_R_134 hK hN hP hS 0 3 rfl rfl ⟨rfl, rfl, Nat.le_of_ble_eq_true rfl, Nat.le_of_ble_eq_true rfl⟩ rfl hl.1 rfl (Nat.le_of_ble_eq_true rfl) d_R_derive_292 ⟨Nat.zero_le _, Nat.zero_le _⟩ (fun H locs hP hS => ?_)
    have hF : f_R_derive co ra rb rc im cK = (f_R_copy (f_R_copy cK (if co = (31 : Int32) then (8 : Int32) else rb) (11 : Int32)) (11 : Int32) ra) := (if_neg h_28_8).trans ((if_neg h_28_9).trans ((if_neg h_28_10).trans ((if_neg h_28_11).trans ((if_neg h_28_12).trans ((if_neg h_28_13).trans ((if_neg h_28_14).trans ((if_neg h_28_15).trans ((if_neg h_28_29).trans ((if_neg h_28_31).trans (rfl))))))))))
    exact e_wv S hr hlocks hP hS (congrArg (fun z => rW q xa th ca st co ra rb rc im hf rz fM gT z) hF.symm) d_R_derive_295
  · -- to 19
    refine lv_icmp_ne (tgt := 15) hx hb d_R_derive_7 rfl (fun h_7 => ?_) (fun h_7 => ?_)
    · -- 7: taken
      refine lv_aload_n hx hb d_R_derive_15 rfl (lv_at hl 0 rfl) ?_
      refine r_get S hK hP 13 (by decide) fl_R_57 rfl d_R_derive_16 ?_
      exact k_19 _ ((if_neg h_7).trans (rfl) : (if co = (31 : Int32) then (8 : Int32) else rb) = rb).symm
    · -- 7: not taken
      refine lv_bipush (v := (8 : Int32)) hx hb d_R_derive_10 (by decide) ?_
      refine lv_goto (tgt := 19) hx hb d_R_derive_12 rfl ?_
      exact k_19 _ ((if_pos h_7).trans (rfl) : (if co = (31 : Int32) then (8 : Int32) else rb) = (8 : Int32)).symm
def f_R_jump (ra : Int32) (rb : Int32) (cK : Nat → Cp) : (Nat → Cp) :=
  va_up (f_R_copy (va_up (f_R_move (f_R_copy (f_R_copy cK rb (11 : Int32)) (8 : Int32) ra) ra ((k_a ((f_R_copy (f_R_copy cK rb (11 : Int32)) (8 : Int32) ra) ((8 : Int32).toNatClampNeg))) + (4 : Int32))) ra.toNatClampNeg (s_y ((f_R_move (f_R_copy (f_R_copy cK rb (11 : Int32)) (8 : Int32) ra) ra ((k_a ((f_R_copy (f_R_copy cK rb (11 : Int32)) (8 : Int32) ra) ((8 : Int32).toNatClampNeg))) + (4 : Int32))) ra.toNatClampNeg) (1 : Int32))) (11 : Int32) (8 : Int32)) ((8 : Int32).toNatClampNeg) (s_y ((f_R_copy (va_up (f_R_move (f_R_copy (f_R_copy cK rb (11 : Int32)) (8 : Int32) ra) ra ((k_a ((f_R_copy (f_R_copy cK rb (11 : Int32)) (8 : Int32) ra) ((8 : Int32).toNatClampNeg))) + (4 : Int32))) ra.toNatClampNeg (s_y ((f_R_move (f_R_copy (f_R_copy cK rb (11 : Int32)) (8 : Int32) ra) ra ((k_a ((f_R_copy (f_R_copy cK rb (11 : Int32)) (8 : Int32) ra) ((8 : Int32).toNatClampNeg))) + (4 : Int32))) ra.toNatClampNeg) (1 : Int32))) (11 : Int32) (8 : Int32)) ((8 : Int32).toNatClampNeg)) (0 : Int32))
set_option maxHeartbeats 4000000 in
set_option maxRecDepth 100000 in
theorem c_R_jump (l : Launch) (D : va_G) (q : Nat → ClassId) (xa : Nat → Nat) (th : Int32) (ca : Int32) (st : Int32) (co : Int32) (ra : Int32) (rb : Int32) (rc : Int32) (im : Int32) (hf : Int32) (rz : Bool) (fM : Nat → Int32) (gT : Nat → Bool) (cK : Nat → Cp) (A : Nat → Prop) (hD : va_D A (rW q xa th ca st co ra rb rc im hf rz fM gT cK)) (hra : vp_in ra 12) (hrb : vp_in rb 12) : WMv l y_R_jump b_R_jump 1 none ({ frames := 2, cells := 0, slots := 0, locals := 47 }) [.ref (xa 0)] D (tyR q) (rW q xa th ca st co ra rb rc im hf rz fM gT cK) (rW q xa th ca st co ra rb rc im hf rz fM gT (f_R_jump ra rb cK)) A := by
  refine ofV (by decide) (Nat.le_of_ble_eq_true rfl) ?_
  intro p e s m below meth c ls S hr hlocks hK hN hP hl
  have hx := S.1
  have hb := S.2.1
  have hS : va_S A s.heap s.heap [] := va_S.rf
  have hl : lv_has ls 1 [(0, .ref (xa 0))] := hl
  refine lv_aload_n hx hb d_R_jump_0 rfl (lv_at hl 0 rfl) ?_
  refine lv_aload_n hx hb d_R_jump_1 rfl (lv_at hl 0 rfl) ?_
  refine r_get S hK hP 13 (by decide) fl_R_57 rfl d_R_jump_2 ?_
  refine lv_bipush (v := (11 : Int32)) hx hb d_R_jump_5 (by decide) ?_
  refine c_vV [] S (c_R_copy l _ _ _ _ _ _ _ _ _ _ _ _ _ _ _ _ A (rW_D hD) rb (11 : Int32) (by first | assumption | exact in_k rfl | decide) (by first | assumption | exact in_k rfl | decide)) mf_R_copy ml_R_134 hK hN hP hS 0 3 rfl rfl ⟨rfl, rfl, Nat.le_of_ble_eq_true rfl, Nat.le_of_ble_eq_true rfl⟩ rfl hl.1 rfl (Nat.le_of_ble_eq_true rfl) d_R_jump_7 ⟨Nat.zero_le _, Nat.zero_le _⟩ (fun H locs hP hS => ?_)
  refine lv_aload_n hx hb d_R_jump_10 rfl (lv_at hl 0 rfl) ?_
  refine lv_bipush (v := (8 : Int32)) hx hb d_R_jump_11 (by decide) ?_
  refine lv_aload_n hx hb d_R_jump_13 rfl (lv_at hl 0 rfl) ?_
  refine r_get S hK hP 12 (by decide) fl_R_79 rfl d_R_jump_14 ?_
  refine c_vV [] S (c_R_copy l _ _ _ _ _ _ _ _ _ _ _ _ _ _ _ _ A (rW_D hD) (8 : Int32) ra (by first | assumption | exact in_k rfl | decide) (by first | assumption | exact in_k rfl | decide)) mf_R_copy ml_R_134 hK hN hP hS 0 3 rfl rfl ⟨rfl, rfl, Nat.le_of_ble_eq_true rfl, Nat.le_of_ble_eq_true rfl⟩ rfl hl.1 rfl (Nat.le_of_ble_eq_true rfl) d_R_jump_17 ⟨Nat.zero_le _, Nat.zero_le _⟩ (fun H locs hP hS => ?_)
  refine lv_aload_n hx hb d_R_jump_20 rfl (lv_at hl 0 rfl) ?_
  refine lv_aload_n hx hb d_R_jump_21 rfl (lv_at hl 0 rfl) ?_
  refine r_get S hK hP 12 (by decide) fl_R_79 rfl d_R_jump_22 ?_
  refine lv_aload_n hx hb d_R_jump_25 rfl (lv_at hl 0 rfl) ?_
  refine r_get S hK hP 6 (by decide) fl_R_26 rfl d_R_jump_26 ?_
  refine lv_bipush (v := (8 : Int32)) hx hb d_R_jump_29 (by decide) ?_
  refine r_ald_a S hK hP (in_k rfl) d_R_jump_31 ?_
  refine lv_iconst (v := (4 : Int32)) hx hb d_R_jump_32 (by decide) ?_
  refine lv_iadd hx hb d_R_jump_33 ?_
  refine c_vV [] S (c_R_move l _ _ _ _ _ _ _ _ _ _ _ _ _ _ _ _ A (rW_D hD) ra ((k_a ((f_R_copy (f_R_copy cK rb (11 : Int32)) (8 : Int32) ra) ((8 : Int32).toNatClampNeg))) + (4 : Int32)) (by first | assumption | exact in_k rfl | decide)) mf_R_move ml_R_137 hK hN hP hS 0 3 rfl rfl ⟨rfl, rfl, Nat.le_of_ble_eq_true rfl, Nat.le_of_ble_eq_true rfl⟩ rfl hl.1 rfl (Nat.le_of_ble_eq_true rfl) d_R_jump_34 ⟨Nat.zero_le _, Nat.zero_le _⟩ (fun H locs hP hS => ?_)
  refine lv_aload_n hx hb d_R_jump_37 rfl (lv_at hl 0 rfl) ?_
  refine r_get S hK hP 8 (by decide) fl_R_32 rfl d_R_jump_38 ?_
  refine lv_aload_n hx hb d_R_jump_41 rfl (lv_at hl 0 rfl) ?_
  refine r_get S hK hP 12 (by decide) fl_R_79 rfl d_R_jump_42 ?_
  refine lv_iconst (v := (1 : Int32)) hx hb d_R_jump_45 (by decide) ?_
  refine r_ast_y S hK hP (rW_D hD) hS (by first | assumption | exact and7_in _) d_R_jump_46 (fun H locs hP hS => ?_)
  refine lv_aload_n hx hb d_R_jump_47 rfl (lv_at hl 0 rfl) ?_
  refine lv_bipush (v := (11 : Int32)) hx hb d_R_jump_48 (by decide) ?_
  refine lv_bipush (v := (8 : Int32)) hx hb d_R_jump_50 (by decide) ?_
  refine c_vV [] S (c_R_copy l _ _ _ _ _ _ _ _ _ _ _ _ _ _ _ _ A (rW_D hD) (11 : Int32) (8 : Int32) (by first | assumption | exact in_k rfl | decide) (by first | assumption | exact in_k rfl | decide)) mf_R_copy ml_R_134 hK hN hP hS 0 3 rfl rfl ⟨rfl, rfl, Nat.le_of_ble_eq_true rfl, Nat.le_of_ble_eq_true rfl⟩ rfl hl.1 rfl (Nat.le_of_ble_eq_true rfl) d_R_jump_52 ⟨Nat.zero_le _, Nat.zero_le _⟩ (fun H locs hP hS => ?_)
  refine lv_aload_n hx hb d_R_jump_55 rfl (lv_at hl 0 rfl) ?_
  refine r_get S hK hP 8 (by decide) fl_R_32 rfl d_R_jump_56 ?_
  refine lv_bipush (v := (8 : Int32)) hx hb d_R_jump_59 (by decide) ?_
  refine lv_iconst (v := (0 : Int32)) hx hb d_R_jump_61 (by decide) ?_
  refine r_ast_y S hK hP (rW_D hD) hS (in_k rfl) d_R_jump_62 (fun H locs hP hS => ?_)
  have hF : f_R_jump ra rb cK = va_up (f_R_copy (va_up (f_R_move (f_R_copy (f_R_copy cK rb (11 : Int32)) (8 : Int32) ra) ra ((k_a ((f_R_copy (f_R_copy cK rb (11 : Int32)) (8 : Int32) ra) ((8 : Int32).toNatClampNeg))) + (4 : Int32))) ra.toNatClampNeg (s_y ((f_R_move (f_R_copy (f_R_copy cK rb (11 : Int32)) (8 : Int32) ra) ra ((k_a ((f_R_copy (f_R_copy cK rb (11 : Int32)) (8 : Int32) ra) ((8 : Int32).toNatClampNeg))) + (4 : Int32))) ra.toNatClampNeg) (1 : Int32))) (11 : Int32) (8 : Int32)) ((8 : Int32).toNatClampNeg) (s_y ((f_R_copy (va_up (f_R_move (f_R_copy (f_R_copy cK rb (11 : Int32)) (8 : Int32) ra) ra ((k_a ((f_R_copy (f_R_copy cK rb (11 : Int32)) (8 : Int32) ra) ((8 : Int32).toNatClampNeg))) + (4 : Int32))) ra.toNatClampNeg (s_y ((f_R_move (f_R_copy (f_R_copy cK rb (11 : Int32)) (8 : Int32) ra) ra ((k_a ((f_R_copy (f_R_copy cK rb (11 : Int32)) (8 : Int32) ra) ((8 : Int32).toNatClampNeg))) + (4 : Int32))) ra.toNatClampNeg) (1 : Int32))) (11 : Int32) (8 : Int32)) ((8 : Int32).toNatClampNeg)) (0 : Int32)) := rfl
  exact e_wv S hr hlocks hP hS (congrArg (fun z => rW q xa th ca st co ra rb rc im hf rz fM gT z) hF.symm) d_R_jump_63
def f_R_goes (co : Int32) (ra : Int32) (rb : Int32) (cK : Nat → Cp) : Bool :=
  if co = (4 : Int32) then (if (k_a (cK ra.toNatClampNeg)) = (k_a (cK rb.toNatClampNeg)) then true else false) else (if co = (5 : Int32) then (if (k_a (cK rb.toNatClampNeg)) ≤ (k_a (cK ra.toNatClampNeg)) then false else true) else (if (k_a (cK ra.toNatClampNeg)) = (k_a (cK rb.toNatClampNeg)) then false else true))
set_option maxHeartbeats 4000000 in
set_option maxRecDepth 100000 in
theorem c_R_goes (l : Launch) (D : va_G) (q : Nat → ClassId) (xa : Nat → Nat) (th : Int32) (ca : Int32) (st : Int32) (co : Int32) (ra : Int32) (rb : Int32) (rc : Int32) (im : Int32) (hf : Int32) (rz : Bool) (fM : Nat → Int32) (gT : Nat → Bool) (cK : Nat → Cp) (hra : vp_in ra 12) (hrb : vp_in rb 12) : PMi l y_R_goes b_R_goes 1 (some .boolean) ({ frames := 0, cells := 0, slots := 0, locals := 0 }) [.ref (xa 0)] D (tyR q) (rW q xa th ca st co ra rb rc im hf rz fM gT cK) (b2i (f_R_goes co ra rb cK)) := by
  refine ofP (by decide) (Nat.le_of_ble_eq_true rfl) ?_
  intro p e s m below meth c ls S hr hlocks hK hN hP hl
  have hx := S.1
  have hb := S.2.1
  have hl : lv_has ls 1 [(0, .ref (xa 0))] := hl
  refine lv_aload_n hx hb d_R_goes_0 rfl (lv_at hl 0 rfl) ?_
  refine r_get S hK hP 11 (by decide) fl_R_72 rfl d_R_goes_1 ?_
  refine lv_iconst (v := (4 : Int32)) hx hb d_R_goes_4 (by decide) ?_
  refine jn 100 ls [] (b2i (if co = (4 : Int32) then (if (k_a (cK ra.toNatClampNeg)) = (k_a (cK rb.toNatClampNeg)) then true else false) else (if co = (5 : Int32) then (if (k_a (cK rb.toNatClampNeg)) ≤ (k_a (cK ra.toNatClampNeg)) then false else true) else (if (k_a (cK ra.toNatClampNeg)) = (k_a (cK rb.toNatClampNeg)) then false else true)))) ?_ (fun k_100 => ?_)
  · -- from 100 on
    exact e_pz (z := if co = (4 : Int32) then (if (k_a (cK ra.toNatClampNeg)) = (k_a (cK rb.toNatClampNeg)) then true else false) else (if co = (5 : Int32) then (if (k_a (cK rb.toNatClampNeg)) ≤ (k_a (cK ra.toNatClampNeg)) then false else true) else (if (k_a (cK ra.toNatClampNeg)) = (k_a (cK rb.toNatClampNeg)) then false else true))) S hr hlocks (congrArg b2i (rfl : f_R_goes co ra rb cK = if co = (4 : Int32) then (if (k_a (cK ra.toNatClampNeg)) = (k_a (cK rb.toNatClampNeg)) then true else false) else (if co = (5 : Int32) then (if (k_a (cK rb.toNatClampNeg)) ≤ (k_a (cK ra.toNatClampNeg)) then false else true) else (if (k_a (cK ra.toNatClampNeg)) = (k_a (cK rb.toNatClampNeg)) then false else true))).symm) d_R_goes_100
  · -- to 100
    refine lv_icmp_ne (tgt := 37) hx hb d_R_goes_5 rfl (fun h_5 => ?_) (fun h_5 => ?_)
    · -- 5: taken
      refine lv_aload_n hx hb d_R_goes_37 rfl (lv_at hl 0 rfl) ?_
      refine r_get S hK hP 11 (by decide) fl_R_72 rfl d_R_goes_38 ?_
      refine lv_iconst (v := (5 : Int32)) hx hb d_R_goes_41 (by decide) ?_
      refine lv_icmp_ne (tgt := 74) hx hb d_R_goes_42 rfl (fun h_42 => ?_) (fun h_42 => ?_)
      · -- 42: taken
        refine lv_aload_n hx hb d_R_goes_74 rfl (lv_at hl 0 rfl) ?_
        refine r_get S hK hP 6 (by decide) fl_R_26 rfl d_R_goes_75 ?_
        refine lv_aload_n hx hb d_R_goes_78 rfl (lv_at hl 0 rfl) ?_
        refine r_get S hK hP 12 (by decide) fl_R_79 rfl d_R_goes_79 ?_
        refine r_ald_a S hK hP (by first | assumption | exact and7_in _) d_R_goes_82 ?_
        refine lv_aload_n hx hb d_R_goes_83 rfl (lv_at hl 0 rfl) ?_
        refine r_get S hK hP 6 (by decide) fl_R_26 rfl d_R_goes_84 ?_
        refine lv_aload_n hx hb d_R_goes_87 rfl (lv_at hl 0 rfl) ?_
        refine r_get S hK hP 13 (by decide) fl_R_57 rfl d_R_goes_88 ?_
        refine r_ald_a S hK hP (by first | assumption | exact and7_in _) d_R_goes_91 ?_
        refine lv_icmp_eq (tgt := 99) hx hb d_R_goes_92 rfl (fun h_92 => ?_) (fun h_92 => ?_)
        · -- 92: taken
          refine lv_iconst (v := (0 : Int32)) hx hb d_R_goes_99 (by decide) ?_
          exact k_100 _ (congrArg b2i ((if_neg h_5).trans ((if_neg h_42).trans ((if_pos h_92).trans (rfl))) : (if co = (4 : Int32) then (if (k_a (cK ra.toNatClampNeg)) = (k_a (cK rb.toNatClampNeg)) then true else false) else (if co = (5 : Int32) then (if (k_a (cK rb.toNatClampNeg)) ≤ (k_a (cK ra.toNatClampNeg)) then false else true) else (if (k_a (cK ra.toNatClampNeg)) = (k_a (cK rb.toNatClampNeg)) then false else true))) = false).symm)
        · -- 92: not taken
          refine lv_iconst (v := (1 : Int32)) hx hb d_R_goes_95 (by decide) ?_
          refine lv_goto (tgt := 100) hx hb d_R_goes_96 rfl ?_
          exact k_100 _ (congrArg b2i ((if_neg h_5).trans ((if_neg h_42).trans ((if_neg h_92).trans (rfl))) : (if co = (4 : Int32) then (if (k_a (cK ra.toNatClampNeg)) = (k_a (cK rb.toNatClampNeg)) then true else false) else (if co = (5 : Int32) then (if (k_a (cK rb.toNatClampNeg)) ≤ (k_a (cK ra.toNatClampNeg)) then false else true) else (if (k_a (cK ra.toNatClampNeg)) = (k_a (cK rb.toNatClampNeg)) then false else true))) = true).symm)
      · -- 42: not taken
        refine lv_aload_n hx hb d_R_goes_45 rfl (lv_at hl 0 rfl) ?_
        refine r_get S hK hP 6 (by decide) fl_R_26 rfl d_R_goes_46 ?_
        refine lv_aload_n hx hb d_R_goes_49 rfl (lv_at hl 0 rfl) ?_
        refine r_get S hK hP 12 (by decide) fl_R_79 rfl d_R_goes_50 ?_
        refine r_ald_a S hK hP (by first | assumption | exact and7_in _) d_R_goes_53 ?_
        refine lv_aload_n hx hb d_R_goes_54 rfl (lv_at hl 0 rfl) ?_
        refine r_get S hK hP 6 (by decide) fl_R_26 rfl d_R_goes_55 ?_
        refine lv_aload_n hx hb d_R_goes_58 rfl (lv_at hl 0 rfl) ?_
        refine r_get S hK hP 13 (by decide) fl_R_57 rfl d_R_goes_59 ?_
        refine r_ald_a S hK hP (by first | assumption | exact and7_in _) d_R_goes_62 ?_
        refine lv_icmp_ge (tgt := 70) hx hb d_R_goes_63 rfl (fun h_63 => ?_) (fun h_63 => ?_)
        · -- 63: taken
          refine lv_iconst (v := (0 : Int32)) hx hb d_R_goes_70 (by decide) ?_
          refine lv_goto (tgt := 100) hx hb d_R_goes_71 rfl ?_
          exact k_100 _ (congrArg b2i ((if_neg h_5).trans ((if_pos h_42).trans ((if_pos h_63).trans (rfl))) : (if co = (4 : Int32) then (if (k_a (cK ra.toNatClampNeg)) = (k_a (cK rb.toNatClampNeg)) then true else false) else (if co = (5 : Int32) then (if (k_a (cK rb.toNatClampNeg)) ≤ (k_a (cK ra.toNatClampNeg)) then false else true) else (if (k_a (cK ra.toNatClampNeg)) = (k_a (cK rb.toNatClampNeg)) then false else true))) = false).symm)
        · -- 63: not taken
          refine lv_iconst (v := (1 : Int32)) hx hb d_R_goes_66 (by decide) ?_
          refine lv_goto (tgt := 100) hx hb d_R_goes_67 rfl ?_
          exact k_100 _ (congrArg b2i ((if_neg h_5).trans ((if_pos h_42).trans ((if_neg h_63).trans (rfl))) : (if co = (4 : Int32) then (if (k_a (cK ra.toNatClampNeg)) = (k_a (cK rb.toNatClampNeg)) then true else false) else (if co = (5 : Int32) then (if (k_a (cK rb.toNatClampNeg)) ≤ (k_a (cK ra.toNatClampNeg)) then false else true) else (if (k_a (cK ra.toNatClampNeg)) = (k_a (cK rb.toNatClampNeg)) then false else true))) = true).symm)
    · -- 5: not taken
      refine lv_aload_n hx hb d_R_goes_8 rfl (lv_at hl 0 rfl) ?_
      refine r_get S hK hP 6 (by decide) fl_R_26 rfl d_R_goes_9 ?_
      refine lv_aload_n hx hb d_R_goes_12 rfl (lv_at hl 0 rfl) ?_
      refine r_get S hK hP 12 (by decide) fl_R_79 rfl d_R_goes_13 ?_
      refine r_ald_a S hK hP (by first | assumption | exact and7_in _) d_R_goes_16 ?_
      refine lv_aload_n hx hb d_R_goes_17 rfl (lv_at hl 0 rfl) ?_
      refine r_get S hK hP 6 (by decide) fl_R_26 rfl d_R_goes_18 ?_
      refine lv_aload_n hx hb d_R_goes_21 rfl (lv_at hl 0 rfl) ?_
      refine r_get S hK hP 13 (by decide) fl_R_57 rfl d_R_goes_22 ?_
      refine r_ald_a S hK hP (by first | assumption | exact and7_in _) d_R_goes_25 ?_
      refine lv_icmp_ne (tgt := 33) hx hb d_R_goes_26 rfl (fun h_26 => ?_) (fun h_26 => ?_)
      · -- 26: taken
        refine lv_iconst (v := (0 : Int32)) hx hb d_R_goes_33 (by decide) ?_
        refine lv_goto (tgt := 100) hx hb d_R_goes_34 rfl ?_
        exact k_100 _ (congrArg b2i ((if_pos h_5).trans ((if_neg h_26).trans (rfl)) : (if co = (4 : Int32) then (if (k_a (cK ra.toNatClampNeg)) = (k_a (cK rb.toNatClampNeg)) then true else false) else (if co = (5 : Int32) then (if (k_a (cK rb.toNatClampNeg)) ≤ (k_a (cK ra.toNatClampNeg)) then false else true) else (if (k_a (cK ra.toNatClampNeg)) = (k_a (cK rb.toNatClampNeg)) then false else true))) = false).symm)
      · -- 26: not taken
        refine lv_iconst (v := (1 : Int32)) hx hb d_R_goes_29 (by decide) ?_
        refine lv_goto (tgt := 100) hx hb d_R_goes_30 rfl ?_
        exact k_100 _ (congrArg b2i ((if_pos h_5).trans ((if_pos h_26).trans (rfl)) : (if co = (4 : Int32) then (if (k_a (cK ra.toNatClampNeg)) = (k_a (cK rb.toNatClampNeg)) then true else false) else (if co = (5 : Int32) then (if (k_a (cK rb.toNatClampNeg)) ≤ (k_a (cK ra.toNatClampNeg)) then false else true) else (if (k_a (cK ra.toNatClampNeg)) = (k_a (cK rb.toNatClampNeg)) then false else true))) = true).symm)
def f_R_doIt (co : Int32) (ra : Int32) (rb : Int32) (rc : Int32) (im : Int32) (hf : Int32) (fM : Nat → Int32) (gT : Nat → Bool) (cK : Nat → Cp) : (Nat → Int32) × (Nat → Bool) × (Nat → Cp) :=
  if (if co < (4 : Int32) then true else (if co ≤ (22 : Int32) then (if co = (30 : Int32) then true else false) else (if co < (29 : Int32) then true else (if co = (30 : Int32) then true else false)))) = true then (fM, gT, (f_R_move (f_R_number cK ra (f_R_reckon co rb rc hf cK)) (8 : Int32) (((k_a (cK ((8 : Int32).toNatClampNeg))) + (4 : Int32)) + (if (if co ≤ (3 : Int32) then false else (if (7 : Int32) ≤ co then false else true)) = true then (if (f_R_goes co ra rb cK) = true then ((4 : Int32) * im) else (0 : Int32)) else (0 : Int32)))))
  else if co ≤ (16 : Int32) then (if co = (32 : Int32) then (if (f_R_usable cK ra) = (0 : Int32) then (if (f_R_may cK ra (4 : Int32)) = true then (fM, gT, (f_R_move (f_R_copy cK ra (9 : Int32)) (8 : Int32) (((k_a (cK ((8 : Int32).toNatClampNeg))) + (4 : Int32)) + (if (if co ≤ (3 : Int32) then false else (if (7 : Int32) ≤ co then false else true)) = true then (if (f_R_goes co ra rb cK) = true then ((4 : Int32) * im) else (0 : Int32)) else (0 : Int32)))))
        else if (if co ≤ (3 : Int32) then false else (if (7 : Int32) ≤ co then false else true)) = true then (fM, gT, (f_R_move cK (8 : Int32) (((k_a (cK ((8 : Int32).toNatClampNeg))) + (4 : Int32)) + (if (if co ≤ (3 : Int32) then false else (if (7 : Int32) ≤ co then false else true)) = true then (if (f_R_goes co ra rb cK) = true then ((4 : Int32) * im) else (0 : Int32)) else (0 : Int32)))))
        else if co = (32 : Int32) then (fM, gT, (f_R_move cK (8 : Int32) (((k_a (cK ((8 : Int32).toNatClampNeg))) + (4 : Int32)) + (if (if co ≤ (3 : Int32) then false else (if (7 : Int32) ≤ co then false else true)) = true then (if (f_R_goes co ra rb cK) = true then ((4 : Int32) * im) else (0 : Int32)) else (0 : Int32)))))
        else (fM, gT, (f_R_move (f_R_derive co ra rb rc im cK) (8 : Int32) (((k_a (cK ((8 : Int32).toNatClampNeg))) + (4 : Int32)) + (if (if co ≤ (3 : Int32) then false else (if (7 : Int32) ≤ co then false else true)) = true then (if (f_R_goes co ra rb cK) = true then ((4 : Int32) * im) else (0 : Int32)) else (0 : Int32))))))
      else if (if co ≤ (3 : Int32) then false else (if (7 : Int32) ≤ co then false else true)) = true then (fM, gT, (f_R_move cK (8 : Int32) (((k_a (cK ((8 : Int32).toNatClampNeg))) + (4 : Int32)) + (if (if co ≤ (3 : Int32) then false else (if (7 : Int32) ≤ co then false else true)) = true then (if (f_R_goes co ra rb cK) = true then ((4 : Int32) * im) else (0 : Int32)) else (0 : Int32)))))
      else if co = (32 : Int32) then (fM, gT, (f_R_move cK (8 : Int32) (((k_a (cK ((8 : Int32).toNatClampNeg))) + (4 : Int32)) + (if (if co ≤ (3 : Int32) then false else (if (7 : Int32) ≤ co then false else true)) = true then (if (f_R_goes co ra rb cK) = true then ((4 : Int32) * im) else (0 : Int32)) else (0 : Int32)))))
      else (fM, gT, (f_R_move (f_R_derive co ra rb rc im cK) (8 : Int32) (((k_a (cK ((8 : Int32).toNatClampNeg))) + (4 : Int32)) + (if (if co ≤ (3 : Int32) then false else (if (7 : Int32) ≤ co then false else true)) = true then (if (f_R_goes co ra rb cK) = true then ((4 : Int32) * im) else (0 : Int32)) else (0 : Int32))))))
    else if (if co ≤ (3 : Int32) then false else (if (7 : Int32) ≤ co then false else true)) = true then (fM, gT, (f_R_move cK (8 : Int32) (((k_a (cK ((8 : Int32).toNatClampNeg))) + (4 : Int32)) + (if (if co ≤ (3 : Int32) then false else (if (7 : Int32) ≤ co then false else true)) = true then (if (f_R_goes co ra rb cK) = true then ((4 : Int32) * im) else (0 : Int32)) else (0 : Int32)))))
    else if co = (32 : Int32) then (fM, gT, (f_R_move cK (8 : Int32) (((k_a (cK ((8 : Int32).toNatClampNeg))) + (4 : Int32)) + (if (if co ≤ (3 : Int32) then false else (if (7 : Int32) ≤ co then false else true)) = true then (if (f_R_goes co ra rb cK) = true then ((4 : Int32) * im) else (0 : Int32)) else (0 : Int32)))))
    else (fM, gT, (f_R_move (f_R_derive co ra rb rc im cK) (8 : Int32) (((k_a (cK ((8 : Int32).toNatClampNeg))) + (4 : Int32)) + (if (if co ≤ (3 : Int32) then false else (if (7 : Int32) ≤ co then false else true)) = true then (if (f_R_goes co ra rb cK) = true then ((4 : Int32) * im) else (0 : Int32)) else (0 : Int32))))))
  else if (23 : Int32) ≤ co then (if co = (32 : Int32) then (if (f_R_usable cK ra) = (0 : Int32) then (if (f_R_may cK ra (4 : Int32)) = true then (fM, gT, (f_R_move (f_R_copy cK ra (9 : Int32)) (8 : Int32) (((k_a (cK ((8 : Int32).toNatClampNeg))) + (4 : Int32)) + (if (if co ≤ (3 : Int32) then false else (if (7 : Int32) ≤ co then false else true)) = true then (if (f_R_goes co ra rb cK) = true then ((4 : Int32) * im) else (0 : Int32)) else (0 : Int32)))))
        else if (if co ≤ (3 : Int32) then false else (if (7 : Int32) ≤ co then false else true)) = true then (fM, gT, (f_R_move cK (8 : Int32) (((k_a (cK ((8 : Int32).toNatClampNeg))) + (4 : Int32)) + (if (if co ≤ (3 : Int32) then false else (if (7 : Int32) ≤ co then false else true)) = true then (if (f_R_goes co ra rb cK) = true then ((4 : Int32) * im) else (0 : Int32)) else (0 : Int32)))))
        else if co = (32 : Int32) then (fM, gT, (f_R_move cK (8 : Int32) (((k_a (cK ((8 : Int32).toNatClampNeg))) + (4 : Int32)) + (if (if co ≤ (3 : Int32) then false else (if (7 : Int32) ≤ co then false else true)) = true then (if (f_R_goes co ra rb cK) = true then ((4 : Int32) * im) else (0 : Int32)) else (0 : Int32)))))
        else (fM, gT, (f_R_move (f_R_derive co ra rb rc im cK) (8 : Int32) (((k_a (cK ((8 : Int32).toNatClampNeg))) + (4 : Int32)) + (if (if co ≤ (3 : Int32) then false else (if (7 : Int32) ≤ co then false else true)) = true then (if (f_R_goes co ra rb cK) = true then ((4 : Int32) * im) else (0 : Int32)) else (0 : Int32))))))
      else if (if co ≤ (3 : Int32) then false else (if (7 : Int32) ≤ co then false else true)) = true then (fM, gT, (f_R_move cK (8 : Int32) (((k_a (cK ((8 : Int32).toNatClampNeg))) + (4 : Int32)) + (if (if co ≤ (3 : Int32) then false else (if (7 : Int32) ≤ co then false else true)) = true then (if (f_R_goes co ra rb cK) = true then ((4 : Int32) * im) else (0 : Int32)) else (0 : Int32)))))
      else if co = (32 : Int32) then (fM, gT, (f_R_move cK (8 : Int32) (((k_a (cK ((8 : Int32).toNatClampNeg))) + (4 : Int32)) + (if (if co ≤ (3 : Int32) then false else (if (7 : Int32) ≤ co then false else true)) = true then (if (f_R_goes co ra rb cK) = true then ((4 : Int32) * im) else (0 : Int32)) else (0 : Int32)))))
      else (fM, gT, (f_R_move (f_R_derive co ra rb rc im cK) (8 : Int32) (((k_a (cK ((8 : Int32).toNatClampNeg))) + (4 : Int32)) + (if (if co ≤ (3 : Int32) then false else (if (7 : Int32) ≤ co then false else true)) = true then (if (f_R_goes co ra rb cK) = true then ((4 : Int32) * im) else (0 : Int32)) else (0 : Int32))))))
    else if (if co ≤ (3 : Int32) then false else (if (7 : Int32) ≤ co then false else true)) = true then (fM, gT, (f_R_move cK (8 : Int32) (((k_a (cK ((8 : Int32).toNatClampNeg))) + (4 : Int32)) + (if (if co ≤ (3 : Int32) then false else (if (7 : Int32) ≤ co then false else true)) = true then (if (f_R_goes co ra rb cK) = true then ((4 : Int32) * im) else (0 : Int32)) else (0 : Int32)))))
    else if co = (32 : Int32) then (fM, gT, (f_R_move cK (8 : Int32) (((k_a (cK ((8 : Int32).toNatClampNeg))) + (4 : Int32)) + (if (if co ≤ (3 : Int32) then false else (if (7 : Int32) ≤ co then false else true)) = true then (if (f_R_goes co ra rb cK) = true then ((4 : Int32) * im) else (0 : Int32)) else (0 : Int32)))))
    else (fM, gT, (f_R_move (f_R_derive co ra rb rc im cK) (8 : Int32) (((k_a (cK ((8 : Int32).toNatClampNeg))) + (4 : Int32)) + (if (if co ≤ (3 : Int32) then false else (if (7 : Int32) ≤ co then false else true)) = true then (if (f_R_goes co ra rb cK) = true then ((4 : Int32) * im) else (0 : Int32)) else (0 : Int32))))))
  else ((f_R_access co ra rb im fM gT cK).1, (f_R_access co ra rb im fM gT cK).2.1, (f_R_move ((f_R_access co ra rb im fM gT cK).2.2) (8 : Int32) (((k_a (cK ((8 : Int32).toNatClampNeg))) + (4 : Int32)) + (if (if co ≤ (3 : Int32) then false else (if (7 : Int32) ≤ co then false else true)) = true then (if (f_R_goes co ra rb cK) = true then ((4 : Int32) * im) else (0 : Int32)) else (0 : Int32)))))
set_option maxHeartbeats 4000000 in
set_option maxRecDepth 100000 in
theorem c_R_doIt (l : Launch) (D : va_G) (q : Nat → ClassId) (xa : Nat → Nat) (th : Int32) (ca : Int32) (st : Int32) (co : Int32) (ra : Int32) (rb : Int32) (rc : Int32) (im : Int32) (hf : Int32) (rz : Bool) (fM : Nat → Int32) (gT : Nat → Bool) (cK : Nat → Cp) (A : Nat → Prop) (hD : va_D A (rW q xa th ca st co ra rb rc im hf rz fM gT cK)) (hra : vp_in ra 12) (hrb : vp_in rb 12) (hrc : vp_in rc 12) (hq : ¬ co ≤ (16 : Int32) → ¬ (23 : Int32) ≤ co → As ((k_a (cK rb.toNatClampNeg)) + im) (f_R_size co)) : WMv l y_R_doIt b_R_doIt 4 none ({ frames := 3, cells := 0, slots := 0, locals := 69 }) [.ref (xa 0)] D (tyR q) (rW q xa th ca st co ra rb rc im hf rz fM gT cK) (rW q xa th ca st co ra rb rc im hf rz ((f_R_doIt co ra rb rc im hf fM gT cK).1) ((f_R_doIt co ra rb rc im hf fM gT cK).2.1) ((f_R_doIt co ra rb rc im hf fM gT cK).2.2)) A := by
  refine ofV (by decide) (Nat.le_of_ble_eq_true rfl) ?_
  intro p e s m below meth c ls S hr hlocks hK hN hP hl
  have hx := S.1
  have hb := S.2.1
  have hS : va_S A s.heap s.heap [] := va_S.rf
  have hl : lv_has ls 4 [(0, .ref (xa 0))] := hl
  refine lv_aload_n hx hb d_R_doIt_0 rfl (lv_at hl 0 rfl) ?_
  refine r_get S hK hP 11 (by decide) fl_R_72 rfl d_R_doIt_1 ?_
  refine lv_iconst (v := (4 : Int32)) hx hb d_R_doIt_4 (by decide) ?_
  refine jn 40 ls [] (b2i (if co < (4 : Int32) then true else (if co ≤ (22 : Int32) then (if co = (30 : Int32) then true else false) else (if co < (29 : Int32) then true else (if co = (30 : Int32) then true else false))))) ?_ (fun k_40 => ?_)
  · -- from 40 on
    refine lv_istore_n (lv' := [(1, .int _), (0, .ref _)]) hx hb d_R_doIt_40 rfl hl (by decide) rfl (fun ls hl => ?_)
    refine lv_aload_n hx hb d_R_doIt_41 rfl (lv_at hl 1 rfl) ?_
    refine r_get S hK hP 11 (by decide) fl_R_72 rfl d_R_doIt_42 ?_
    refine lv_iconst (v := (3 : Int32)) hx hb d_R_doIt_45 (by decide) ?_
    refine jn 63 ls [] (b2i (if co ≤ (3 : Int32) then false else (if (7 : Int32) ≤ co then false else true))) ?_ (fun k_63 => ?_)
    · -- from 63 on
      refine lv_istore_n (lv' := [(2, .int _), (1, .int _), (0, .ref _)]) hx hb d_R_doIt_63 rfl hl (by decide) rfl (fun ls hl => ?_)
      refine lv_aload_n hx hb d_R_doIt_64 rfl (lv_at hl 2 rfl) ?_
      refine r_get S hK hP 6 (by decide) fl_R_26 rfl d_R_doIt_65 ?_
      refine lv_bipush (v := (8 : Int32)) hx hb d_R_doIt_68 (by decide) ?_
      refine r_ald_a S hK hP (in_k rfl) d_R_doIt_70 ?_
      refine lv_iconst (v := (4 : Int32)) hx hb d_R_doIt_71 (by decide) ?_
      refine lv_iadd hx hb d_R_doIt_72 ?_
      refine lv_iload_n hx hb d_R_doIt_73 rfl (lv_at hl 0 rfl) ?_
      refine jn 94 ls [.int ((k_a (cK ((8 : Int32).toNatClampNeg))) + (4 : Int32))] (if (if co ≤ (3 : Int32) then false else (if (7 : Int32) ≤ co then false else true)) = true then (if (f_R_goes co ra rb cK) = true then ((4 : Int32) * im) else (0 : Int32)) else (0 : Int32)) ?_ (fun k_94 => ?_)
      · -- from 94 on
        refine lv_iadd hx hb d_R_doIt_94 ?_
        refine lv_istore_n (lv' := [(3, .int _), (2, .int _), (1, .int _), (0, .ref _)]) hx hb d_R_doIt_95 rfl hl (by decide) rfl (fun ls hl => ?_)
        refine lv_iload_n hx hb d_R_doIt_96 rfl (lv_at hl 2 rfl) ?_
        refine zb_eq (tgt := 115) hx hb d_R_doIt_97 rfl (fun h_97 => ?_) (fun h_97 => ?_)
        · -- 97: taken
          refine lv_aload_n hx hb d_R_doIt_115 rfl (lv_at hl 3 rfl) ?_
          refine r_get S hK hP 11 (by decide) fl_R_72 rfl d_R_doIt_116 ?_
          refine lv_bipush (v := (16 : Int32)) hx hb d_R_doIt_119 (by decide) ?_
          refine lv_icmp_le (tgt := 140) hx hb d_R_doIt_121 rfl (fun h_121 => ?_) (fun h_121 => ?_)
          · -- 121: taken
            refine lv_aload_n hx hb d_R_doIt_140 rfl (lv_at hl 3 rfl) ?_
            refine r_get S hK hP 11 (by decide) fl_R_72 rfl d_R_doIt_141 ?_
            refine lv_bipush (v := (32 : Int32)) hx hb d_R_doIt_144 (by decide) ?_
            refine lv_icmp_ne (tgt := 185) hx hb d_R_doIt_146 rfl (fun h_146 => ?_) (fun h_146 => ?_)
            · -- 146: taken
              refine lv_iload_n hx hb d_R_doIt_185 rfl (lv_at hl 1 rfl) ?_
              refine zb_ne (tgt := 202) hx hb d_R_doIt_186 rfl (fun h_186 => ?_) (fun h_186 => ?_)
              · -- 186: taken
                refine lv_aload_n hx hb d_R_doIt_202 rfl (lv_at hl 3 rfl) ?_
                refine lv_bipush (v := (8 : Int32)) hx hb d_R_doIt_203 (by decide) ?_
                refine lv_iload_n hx hb d_R_doIt_205 rfl (lv_at hl 0 rfl) ?_
                refine c_vV [] S (c_R_move l _ _ _ _ _ _ _ _ _ _ _ _ _ _ _ _ A (rW_D hD) (8 : Int32) (((k_a (cK ((8 : Int32).toNatClampNeg))) + (4 : Int32)) + (if (if co ≤ (3 : Int32) then false else (if (7 : Int32) ≤ co then false else true)) = true then (if (f_R_goes co ra rb cK) = true then ((4 : Int32) * im) else (0 : Int32)) else (0 : Int32))) (by first | assumption | exact in_k rfl | decide)) mf_R_move ml_R_137 hK hN hP hS 0 3 rfl rfl ⟨rfl, rfl, Nat.le_of_ble_eq_true rfl, Nat.le_of_ble_eq_true rfl⟩ rfl hl.1 rfl (Nat.le_of_ble_eq_true rfl) d_R_doIt_206 ⟨Nat.zero_le _, Nat.zero_le _⟩ (fun H locs hP hS => ?_)
                have hF : f_R_doIt co ra rb rc im hf fM gT cK = (fM, gT, (f_R_move cK (8 : Int32) (((k_a (cK ((8 : Int32).toNatClampNeg))) + (4 : Int32)) + (if (if co ≤ (3 : Int32) then false else (if (7 : Int32) ≤ co then false else true)) = true then (if (f_R_goes co ra rb cK) = true then ((4 : Int32) * im) else (0 : Int32)) else (0 : Int32))))) := (if_neg (bn_f h_97)).trans ((if_pos h_121).trans ((if_neg h_146).trans ((if_pos h_186).trans (rfl))))
                exact e_wv S hr hlocks hP hS (congrArg (fun z => rW q xa th ca st co ra rb rc im hf rz z.1 z.2.1 z.2.2) hF.symm) d_R_doIt_209
              · -- 186: not taken
                refine lv_aload_n hx hb d_R_doIt_189 rfl (lv_at hl 3 rfl) ?_
                refine r_get S hK hP 11 (by decide) fl_R_72 rfl d_R_doIt_190 ?_
                refine lv_bipush (v := (32 : Int32)) hx hb d_R_doIt_193 (by decide) ?_
                refine lv_icmp_eq (tgt := 202) hx hb d_R_doIt_195 rfl (fun h_195 => ?_) (fun h_195 => ?_)
                · -- 195: taken
                  refine lv_aload_n hx hb d_R_doIt_202 rfl (lv_at hl 3 rfl) ?_
                  refine lv_bipush (v := (8 : Int32)) hx hb d_R_doIt_203 (by decide) ?_
                  refine lv_iload_n hx hb d_R_doIt_205 rfl (lv_at hl 0 rfl) ?_
                  refine c_vV [] S (c_R_move l _ _ _ _ _ _ _ _ _ _ _ _ _ _ _ _ A (rW_D hD) (8 : Int32) (((k_a (cK ((8 : Int32).toNatClampNeg))) + (4 : Int32)) + (if (if co ≤ (3 : Int32) then false else (if (7 : Int32) ≤ co then false else true)) = true then (if (f_R_goes co ra rb cK) = true then ((4 : Int32) * im) else (0 : Int32)) else (0 : Int32))) (by first | assumption | exact in_k rfl | decide)) mf_R_move ml_R_137 hK hN hP hS 0 3 rfl rfl ⟨rfl, rfl, Nat.le_of_ble_eq_true rfl, Nat.le_of_ble_eq_true rfl⟩ rfl hl.1 rfl (Nat.le_of_ble_eq_true rfl) d_R_doIt_206 ⟨Nat.zero_le _, Nat.zero_le _⟩ (fun H locs hP hS => ?_)
                  have hF : f_R_doIt co ra rb rc im hf fM gT cK = (fM, gT, (f_R_move cK (8 : Int32) (((k_a (cK ((8 : Int32).toNatClampNeg))) + (4 : Int32)) + (if (if co ≤ (3 : Int32) then false else (if (7 : Int32) ≤ co then false else true)) = true then (if (f_R_goes co ra rb cK) = true then ((4 : Int32) * im) else (0 : Int32)) else (0 : Int32))))) := (if_neg (bn_f h_97)).trans ((if_pos h_121).trans ((if_neg h_146).trans ((if_neg (bn_f h_186)).trans ((if_pos h_195).trans (rfl)))))
                  exact e_wv S hr hlocks hP hS (congrArg (fun z => rW q xa th ca st co ra rb rc im hf rz z.1 z.2.1 z.2.2) hF.symm) d_R_doIt_209
                · -- 195: not taken
                  refine lv_aload_n hx hb d_R_doIt_198 rfl (lv_at hl 3 rfl) ?_
                  refine c_vV [] S (c_R_derive l _ _ _ _ _ _ _ _ _ _ _ _ _ _ _ _ A (rW_D hD) (by first | assumption | exact in_k rfl | decide) (by first | assumption | exact in_k rfl | decide) (by first | assumption | exact in_k rfl | decide)) mf_R_derive ml_R_152 hK hN hP hS 0 3 rfl rfl ⟨rfl, rfl, Nat.le_of_ble_eq_true rfl, Nat.le_of_ble_eq_true rfl⟩ rfl hl.1 rfl (Nat.le_of_ble_eq_true rfl) d_R_doIt_199 ⟨Nat.zero_le _, Nat.zero_le _⟩ (fun H locs hP hS => ?_)
                  refine lv_aload_n hx hb d_R_doIt_202 rfl (lv_at hl 3 rfl) ?_
                  refine lv_bipush (v := (8 : Int32)) hx hb d_R_doIt_203 (by decide) ?_
                  refine lv_iload_n hx hb d_R_doIt_205 rfl (lv_at hl 0 rfl) ?_
                  refine c_vV [] S (c_R_move l _ _ _ _ _ _ _ _ _ _ _ _ _ _ _ _ A (rW_D hD) (8 : Int32) (((k_a (cK ((8 : Int32).toNatClampNeg))) + (4 : Int32)) + (if (if co ≤ (3 : Int32) then false else (if (7 : Int32) ≤ co then false else true)) = true then (if (f_R_goes co ra rb cK) = true then ((4 : Int32) * im) else (0 : Int32)) else (0 : Int32))) (by first | assumption | exact in_k rfl | decide)) mf_R_move ml_R_137 hK hN hP hS 0 3 rfl rfl ⟨rfl, rfl, Nat.le_of_ble_eq_true rfl, Nat.le_of_ble_eq_true rfl⟩ rfl hl.1 rfl (Nat.le_of_ble_eq_true rfl) d_R_doIt_206 ⟨Nat.zero_le _, Nat.zero_le _⟩ (fun H locs hP hS => ?_)
                  have hF : f_R_doIt co ra rb rc im hf fM gT cK = (fM, gT, (f_R_move (f_R_derive co ra rb rc im cK) (8 : Int32) (((k_a (cK ((8 : Int32).toNatClampNeg))) + (4 : Int32)) + (if (if co ≤ (3 : Int32) then false else (if (7 : Int32) ≤ co then false else true)) = true then (if (f_R_goes co ra rb cK) = true then ((4 : Int32) * im) else (0 : Int32)) else (0 : Int32))))) := (if_neg (bn_f h_97)).trans ((if_pos h_121).trans ((if_neg h_146).trans ((if_neg (bn_f h_186)).trans ((if_neg h_195).trans (rfl)))))
                  exact e_wv S hr hlocks hP hS (congrArg (fun z => rW q xa th ca st co ra rb rc im hf rz z.1 z.2.1 z.2.2) hF.symm) d_R_doIt_209
            · -- 146: not taken
              refine lv_aload_n hx hb d_R_doIt_149 rfl (lv_at hl 3 rfl) ?_
              refine lv_aload_n hx hb d_R_doIt_150 rfl (lv_at hl 3 rfl) ?_
              refine r_get S hK hP 12 (by decide) fl_R_79 rfl d_R_doIt_151 ?_
              refine c_pV [] S (c_R_usable l _ _ _ _ _ _ _ _ _ _ _ _ _ _ _ _ ra (by first | assumption | exact in_k rfl | decide)) mf_R_usable ml_R_47 hK hN hP 0 3 rfl rfl ⟨rfl, rfl, Nat.le_of_ble_eq_true rfl, Nat.le_of_ble_eq_true rfl⟩ rfl hl.1 rfl (Nat.le_of_ble_eq_true rfl) d_R_doIt_154 ⟨Nat.zero_le _, Nat.zero_le _⟩ ?_
              refine lv_if_ne (tgt := 185) hx hb d_R_doIt_157 rfl (fun h_157 => ?_) (fun h_157 => ?_)
              · -- 157: taken
                refine lv_iload_n hx hb d_R_doIt_185 rfl (lv_at hl 1 rfl) ?_
                refine zb_ne (tgt := 202) hx hb d_R_doIt_186 rfl (fun h_186 => ?_) (fun h_186 => ?_)
                · -- 186: taken
                  refine lv_aload_n hx hb d_R_doIt_202 rfl (lv_at hl 3 rfl) ?_
                  refine lv_bipush (v := (8 : Int32)) hx hb d_R_doIt_203 (by decide) ?_
                  refine lv_iload_n hx hb d_R_doIt_205 rfl (lv_at hl 0 rfl) ?_
                  refine c_vV [] S (c_R_move l _ _ _ _ _ _ _ _ _ _ _ _ _ _ _ _ A (rW_D hD) (8 : Int32) (((k_a (cK ((8 : Int32).toNatClampNeg))) + (4 : Int32)) + (if (if co ≤ (3 : Int32) then false else (if (7 : Int32) ≤ co then false else true)) = true then (if (f_R_goes co ra rb cK) = true then ((4 : Int32) * im) else (0 : Int32)) else (0 : Int32))) (by first | assumption | exact in_k rfl | decide)) mf_R_move ml_R_137 hK hN hP hS 0 3 rfl rfl ⟨rfl, rfl, Nat.le_of_ble_eq_true rfl, Nat.le_of_ble_eq_true rfl⟩ rfl hl.1 rfl (Nat.le_of_ble_eq_true rfl) d_R_doIt_206 ⟨Nat.zero_le _, Nat.zero_le _⟩ (fun H locs hP hS => ?_)
                  have hF : f_R_doIt co ra rb rc im hf fM gT cK = (fM, gT, (f_R_move cK (8 : Int32) (((k_a (cK ((8 : Int32).toNatClampNeg))) + (4 : Int32)) + (if (if co ≤ (3 : Int32) then false else (if (7 : Int32) ≤ co then false else true)) = true then (if (f_R_goes co ra rb cK) = true then ((4 : Int32) * im) else (0 : Int32)) else (0 : Int32))))) := (if_neg (bn_f h_97)).trans ((if_pos h_121).trans ((if_pos h_146).trans ((if_neg h_157).trans ((if_pos h_186).trans (rfl)))))
                  exact e_wv S hr hlocks hP hS (congrArg (fun z => rW q xa th ca st co ra rb rc im hf rz z.1 z.2.1 z.2.2) hF.symm) d_R_doIt_209
                · -- 186: not taken
                  refine lv_aload_n hx hb d_R_doIt_189 rfl (lv_at hl 3 rfl) ?_
                  refine r_get S hK hP 11 (by decide) fl_R_72 rfl d_R_doIt_190 ?_
                  refine lv_bipush (v := (32 : Int32)) hx hb d_R_doIt_193 (by decide) ?_
                  refine lv_icmp_eq (tgt := 202) hx hb d_R_doIt_195 rfl (fun h_195 => ?_) (fun h_195 => ?_)
                  · -- 195: taken
                    refine lv_aload_n hx hb d_R_doIt_202 rfl (lv_at hl 3 rfl) ?_
                    refine lv_bipush (v := (8 : Int32)) hx hb d_R_doIt_203 (by decide) ?_
                    refine lv_iload_n hx hb d_R_doIt_205 rfl (lv_at hl 0 rfl) ?_
                    refine c_vV [] S (c_R_move l _ _ _ _ _ _ _ _ _ _ _ _ _ _ _ _ A (rW_D hD) (8 : Int32) (((k_a (cK ((8 : Int32).toNatClampNeg))) + (4 : Int32)) + (if (if co ≤ (3 : Int32) then false else (if (7 : Int32) ≤ co then false else true)) = true then (if (f_R_goes co ra rb cK) = true then ((4 : Int32) * im) else (0 : Int32)) else (0 : Int32))) (by first | assumption | exact in_k rfl | decide)) mf_R_move ml_R_137 hK hN hP hS 0 3 rfl rfl ⟨rfl, rfl, Nat.le_of_ble_eq_true rfl, Nat.le_of_ble_eq_true rfl⟩ rfl hl.1 rfl (Nat.le_of_ble_eq_true rfl) d_R_doIt_206 ⟨Nat.zero_le _, Nat.zero_le _⟩ (fun H locs hP hS => ?_)
                    have hF : f_R_doIt co ra rb rc im hf fM gT cK = (fM, gT, (f_R_move cK (8 : Int32) (((k_a (cK ((8 : Int32).toNatClampNeg))) + (4 : Int32)) + (if (if co ≤ (3 : Int32) then false else (if (7 : Int32) ≤ co then false else true)) = true then (if (f_R_goes co ra rb cK) = true then ((4 : Int32) * im) else (0 : Int32)) else (0 : Int32))))) := (if_neg (bn_f h_97)).trans ((if_pos h_121).trans ((if_pos h_146).trans ((if_neg h_157).trans ((if_neg (bn_f h_186)).trans ((if_pos h_195).trans (rfl))))))
                    exact e_wv S hr hlocks hP hS (congrArg (fun z => rW q xa th ca st co ra rb rc im hf rz z.1 z.2.1 z.2.2) hF.symm) d_R_doIt_209
                  · -- 195: not taken
                    refine lv_aload_n hx hb d_R_doIt_198 rfl (lv_at hl 3 rfl) ?_
                    refine c_vV [] S (c_R_derive l _ _ _ _ _ _ _ _ _ _ _ _ _ _ _ _ A (rW_D hD) (by first | assumption | exact in_k rfl | decide) (by first | assumption | exact in_k rfl | decide) (by first | assumption | exact in_k rfl | decide)) mf_R_derive ml_R_152 hK hN hP hS 0 3 rfl rfl ⟨rfl, rfl, Nat.le_of_ble_eq_true rfl, Nat.le_of_ble_eq_true rfl⟩ rfl hl.1 rfl (Nat.le_of_ble_eq_true rfl) d_R_doIt_199 ⟨Nat.zero_le _, Nat.zero_le _⟩ (fun H locs hP hS => ?_)
                    refine lv_aload_n hx hb d_R_doIt_202 rfl (lv_at hl 3 rfl) ?_
                    refine lv_bipush (v := (8 : Int32)) hx hb d_R_doIt_203 (by decide) ?_
                    refine lv_iload_n hx hb d_R_doIt_205 rfl (lv_at hl 0 rfl) ?_
                    refine c_vV [] S (c_R_move l _ _ _ _ _ _ _ _ _ _ _ _ _ _ _ _ A (rW_D hD) (8 : Int32) (((k_a (cK ((8 : Int32).toNatClampNeg))) + (4 : Int32)) + (if (if co ≤ (3 : Int32) then false else (if (7 : Int32) ≤ co then false else true)) = true then (if (f_R_goes co ra rb cK) = true then ((4 : Int32) * im) else (0 : Int32)) else (0 : Int32))) (by first | assumption | exact in_k rfl | decide)) mf_R_move ml_R_137 hK hN hP hS 0 3 rfl rfl ⟨rfl, rfl, Nat.le_of_ble_eq_true rfl, Nat.le_of_ble_eq_true rfl⟩ rfl hl.1 rfl (Nat.le_of_ble_eq_true rfl) d_R_doIt_206 ⟨Nat.zero_le _, Nat.zero_le _⟩ (fun H locs hP hS => ?_)
                    have hF : f_R_doIt co ra rb rc im hf fM gT cK = (fM, gT, (f_R_move (f_R_derive co ra rb rc im cK) (8 : Int32) (((k_a (cK ((8 : Int32).toNatClampNeg))) + (4 : Int32)) + (if (if co ≤ (3 : Int32) then false else (if (7 : Int32) ≤ co then false else true)) = true then (if (f_R_goes co ra rb cK) = true then ((4 : Int32) * im) else (0 : Int32)) else (0 : Int32))))) := (if_neg (bn_f h_97)).trans ((if_pos h_121).trans ((if_pos h_146).trans ((if_neg h_157).trans ((if_neg (bn_f h_186)).trans ((if_neg h_195).trans (rfl))))))
                    exact e_wv S hr hlocks hP hS (congrArg (fun z => rW q xa th ca st co ra rb rc im hf rz z.1 z.2.1 z.2.2) hF.symm) d_R_doIt_209
              · -- 157: not taken
                refine lv_aload_n hx hb d_R_doIt_160 rfl (lv_at hl 3 rfl) ?_
                refine lv_aload_n hx hb d_R_doIt_161 rfl (lv_at hl 3 rfl) ?_
                refine r_get S hK hP 12 (by decide) fl_R_79 rfl d_R_doIt_162 ?_
                refine lv_iconst (v := (4 : Int32)) hx hb d_R_doIt_165 (by decide) ?_
                refine c_pV [] S (c_R_may l _ _ _ _ _ _ _ _ _ _ _ _ _ _ _ _ ra (4 : Int32) (by first | assumption | exact in_k rfl | decide)) mf_R_may ml_R_51 hK hN hP 0 3 rfl rfl ⟨rfl, rfl, Nat.le_of_ble_eq_true rfl, Nat.le_of_ble_eq_true rfl⟩ rfl hl.1 rfl (Nat.le_of_ble_eq_true rfl) d_R_doIt_166 ⟨Nat.zero_le _, Nat.zero_le _⟩ ?_
                refine zb_eq (tgt := 185) hx hb d_R_doIt_169 rfl (fun h_169 => ?_) (fun h_169 => ?_)
                · -- 169: taken
                  refine lv_iload_n hx hb d_R_doIt_185 rfl (lv_at hl 1 rfl) ?_
                  refine zb_ne (tgt := 202) hx hb d_R_doIt_186 rfl (fun h_186 => ?_) (fun h_186 => ?_)
                  · -- 186: taken
                    refine lv_aload_n hx hb d_R_doIt_202 rfl (lv_at hl 3 rfl) ?_
                    refine lv_bipush (v := (8 : Int32)) hx hb d_R_doIt_203 (by decide) ?_
                    refine lv_iload_n hx hb d_R_doIt_205 rfl (lv_at hl 0 rfl) ?_
                    refine c_vV [] S (c_R_move l _ _ _ _ _ _ _ _ _ _ _ _ _ _ _ _ A (rW_D hD) (8 : Int32) (((k_a (cK ((8 : Int32).toNatClampNeg))) + (4 : Int32)) + (if (if co ≤ (3 : Int32) then false else (if (7 : Int32) ≤ co then false else true)) = true then (if (f_R_goes co ra rb cK) = true then ((4 : Int32) * im) else (0 : Int32)) else (0 : Int32))) (by first | assumption | exact in_k rfl | decide)) mf_R_move ml_R_137 hK hN hP hS 0 3 rfl rfl ⟨rfl, rfl, Nat.le_of_ble_eq_true rfl, Nat.le_of_ble_eq_true rfl⟩ rfl hl.1 rfl (Nat.le_of_ble_eq_true rfl) d_R_doIt_206 ⟨Nat.zero_le _, Nat.zero_le _⟩ (fun H locs hP hS => ?_)
                    have hF : f_R_doIt co ra rb rc im hf fM gT cK = (fM, gT, (f_R_move cK (8 : Int32) (((k_a (cK ((8 : Int32).toNatClampNeg))) + (4 : Int32)) + (if (if co ≤ (3 : Int32) then false else (if (7 : Int32) ≤ co then false else true)) = true then (if (f_R_goes co ra rb cK) = true then ((4 : Int32) * im) else (0 : Int32)) else (0 : Int32))))) := (if_neg (bn_f h_97)).trans ((if_pos h_121).trans ((if_pos h_146).trans ((if_pos h_157).trans ((if_neg (bn_f h_169)).trans ((if_pos h_186).trans (rfl))))))
                    exact e_wv S hr hlocks hP hS (congrArg (fun z => rW q xa th ca st co ra rb rc im hf rz z.1 z.2.1 z.2.2) hF.symm) d_R_doIt_209
                  · -- 186: not taken
                    refine lv_aload_n hx hb d_R_doIt_189 rfl (lv_at hl 3 rfl) ?_
                    refine r_get S hK hP 11 (by decide) fl_R_72 rfl d_R_doIt_190 ?_
                    refine lv_bipush (v := (32 : Int32)) hx hb d_R_doIt_193 (by decide) ?_
                    refine lv_icmp_eq (tgt := 202) hx hb d_R_doIt_195 rfl (fun h_195 => ?_) (fun h_195 => ?_)
                    · -- 195: taken
                      refine lv_aload_n hx hb d_R_doIt_202 rfl (lv_at hl 3 rfl) ?_
                      refine lv_bipush (v := (8 : Int32)) hx hb d_R_doIt_203 (by decide) ?_
                      refine lv_iload_n hx hb d_R_doIt_205 rfl (lv_at hl 0 rfl) ?_
                      refine c_vV [] S (c_R_move l _ _ _ _ _ _ _ _ _ _ _ _ _ _ _ _ A (rW_D hD) (8 : Int32) (((k_a (cK ((8 : Int32).toNatClampNeg))) + (4 : Int32)) + (if (if co ≤ (3 : Int32) then false else (if (7 : Int32) ≤ co then false else true)) = true then (if (f_R_goes co ra rb cK) = true then ((4 : Int32) * im) else (0 : Int32)) else (0 : Int32))) (by first | assumption | exact in_k rfl | decide)) mf_R_move ml_R_137 hK hN hP hS 0 3 rfl rfl ⟨rfl, rfl, Nat.le_of_ble_eq_true rfl, Nat.le_of_ble_eq_true rfl⟩ rfl hl.1 rfl (Nat.le_of_ble_eq_true rfl) d_R_doIt_206 ⟨Nat.zero_le _, Nat.zero_le _⟩ (fun H locs hP hS => ?_)
                      have hF : f_R_doIt co ra rb rc im hf fM gT cK = (fM, gT, (f_R_move cK (8 : Int32) (((k_a (cK ((8 : Int32).toNatClampNeg))) + (4 : Int32)) + (if (if co ≤ (3 : Int32) then false else (if (7 : Int32) ≤ co then false else true)) = true then (if (f_R_goes co ra rb cK) = true then ((4 : Int32) * im) else (0 : Int32)) else (0 : Int32))))) := (if_neg (bn_f h_97)).trans ((if_pos h_121).trans ((if_pos h_146).trans ((if_pos h_157).trans ((if_neg (bn_f h_169)).trans ((if_neg (bn_f h_186)).trans ((if_pos h_195).trans (rfl)))))))
                      exact e_wv S hr hlocks hP hS (congrArg (fun z => rW q xa th ca st co ra rb rc im hf rz z.1 z.2.1 z.2.2) hF.symm) d_R_doIt_209
                    · -- 195: not taken
                      refine lv_aload_n hx hb d_R_doIt_198 rfl (lv_at hl 3 rfl) ?_
                      refine c_vV [] S (c_R_derive l _ _ _ _ _ _ _ _ _ _ _ _ _ _ _ _ A (rW_D hD) (by first | assumption | exact in_k rfl | decide) (by first | assumption | exact in_k rfl | decide) (by first | assumption | exact in_k rfl | decide)) mf_R_derive ml_R_152 hK hN hP hS 0 3 rfl rfl ⟨rfl, rfl, Nat.le_of_ble_eq_true rfl, Nat.le_of_ble_eq_true rfl⟩ rfl hl.1 rfl (Nat.le_of_ble_eq_true rfl) d_R_doIt_199 ⟨Nat.zero_le _, Nat.zero_le _⟩ (fun H locs hP hS => ?_)
                      refine lv_aload_n hx hb d_R_doIt_202 rfl (lv_at hl 3 rfl) ?_
                      refine lv_bipush (v := (8 : Int32)) hx hb d_R_doIt_203 (by decide) ?_
                      refine lv_iload_n hx hb d_R_doIt_205 rfl (lv_at hl 0 rfl) ?_
                      refine c_vV [] S (c_R_move l _ _ _ _ _ _ _ _ _ _ _ _ _ _ _ _ A (rW_D hD) (8 : Int32) (((k_a (cK ((8 : Int32).toNatClampNeg))) + (4 : Int32)) + (if (if co ≤ (3 : Int32) then false else (if (7 : Int32) ≤ co then false else true)) = true then (if (f_R_goes co ra rb cK) = true then ((4 : Int32) * im) else (0 : Int32)) else (0 : Int32))) (by first | assumption | exact in_k rfl | decide)) mf_R_move ml_R_137 hK hN hP hS 0 3 rfl rfl ⟨rfl, rfl, Nat.le_of_ble_eq_true rfl, Nat.le_of_ble_eq_true rfl⟩ rfl hl.1 rfl (Nat.le_of_ble_eq_true rfl) d_R_doIt_206 ⟨Nat.zero_le _, Nat.zero_le _⟩ (fun H locs hP hS => ?_)
                      have hF : f_R_doIt co ra rb rc im hf fM gT cK = (fM, gT, (f_R_move (f_R_derive co ra rb rc im cK) (8 : Int32) (((k_a (cK ((8 : Int32).toNatClampNeg))) + (4 : Int32)) + (if (if co ≤ (3 : Int32) then false else (if (7 : Int32) ≤ co then false else true)) = true then (if (f_R_goes co ra rb cK) = true then ((4 : Int32) * im) else (0 : Int32)) else (0 : Int32))))) := (if_neg (bn_f h_97)).trans ((if_pos h_121).trans ((if_pos h_146).trans ((if_pos h_157).trans ((if_neg (bn_f h_169)).trans ((if_neg (bn_f h_186)).trans ((if_neg h_195).trans (rfl)))))))
                      exact e_wv S hr hlocks hP hS (congrArg (fun z => rW q xa th ca st co ra rb rc im hf rz z.1 z.2.1 z.2.2) hF.symm) d_R_doIt_209
                · -- 169: not taken
                  refine lv_aload_n hx hb d_R_doIt_172 rfl (lv_at hl 3 rfl) ?_
                  refine lv_aload_n hx hb d_R_doIt_173 rfl (lv_at hl 3 rfl) ?_
                  refine r_get S hK hP 12 (by decide) fl_R_79 rfl d_R_doIt_174 ?_
                  refine lv_bipush (v := (9 : Int32)) hx hb d_R_doIt_177 (by decide) ?_
                  refine c_vV [] S (c_R_copy l _ _ _ _ _ _ _ _ _ _ _ _ _ _ _ _ A (rW_D hD) ra (9 : Int32) (by first | assumption | exact in_k rfl | decide) (by first | assumption | exact in_k rfl | decide)) mf_R_copy ml_R_134 hK hN hP hS 0 3 rfl rfl ⟨rfl, rfl, Nat.le_of_ble_eq_true rfl, Nat.le_of_ble_eq_true rfl⟩ rfl hl.1 rfl (Nat.le_of_ble_eq_true rfl) d_R_doIt_179 ⟨Nat.zero_le _, Nat.zero_le _⟩ (fun H locs hP hS => ?_)
                  refine lv_goto (tgt := 202) hx hb d_R_doIt_182 rfl ?_
                  refine lv_aload_n hx hb d_R_doIt_202 rfl (lv_at hl 3 rfl) ?_
                  refine lv_bipush (v := (8 : Int32)) hx hb d_R_doIt_203 (by decide) ?_
                  refine lv_iload_n hx hb d_R_doIt_205 rfl (lv_at hl 0 rfl) ?_
                  refine c_vV [] S (c_R_move l _ _ _ _ _ _ _ _ _ _ _ _ _ _ _ _ A (rW_D hD) (8 : Int32) (((k_a (cK ((8 : Int32).toNatClampNeg))) + (4 : Int32)) + (if (if co ≤ (3 : Int32) then false else (if (7 : Int32) ≤ co then false else true)) = true then (if (f_R_goes co ra rb cK) = true then ((4 : Int32) * im) else (0 : Int32)) else (0 : Int32))) (by first | assumption | exact in_k rfl | decide)) mf_R_move ml_R_137 hK hN hP hS 0 3 rfl rfl ⟨rfl, rfl, Nat.le_of_ble_eq_true rfl, Nat.le_of_ble_eq_true rfl⟩ rfl hl.1 rfl (Nat.le_of_ble_eq_true rfl) d_R_doIt_206 ⟨Nat.zero_le _, Nat.zero_le _⟩ (fun H locs hP hS => ?_)
                  have hF : f_R_doIt co ra rb rc im hf fM gT cK = (fM, gT, (f_R_move (f_R_copy cK ra (9 : Int32)) (8 : Int32) (((k_a (cK ((8 : Int32).toNatClampNeg))) + (4 : Int32)) + (if (if co ≤ (3 : Int32) then false else (if (7 : Int32) ≤ co then false else true)) = true then (if (f_R_goes co ra rb cK) = true then ((4 : Int32) * im) else (0 : Int32)) else (0 : Int32))))) := (if_neg (bn_f h_97)).trans ((if_pos h_121).trans ((if_pos h_146).trans ((if_pos h_157).trans ((if_pos h_169).trans (rfl)))))
                  exact e_wv S hr hlocks hP hS (congrArg (fun z => rW q xa th ca st co ra rb rc im hf rz z.1 z.2.1 z.2.2) hF.symm) d_R_doIt_209
          · -- 121: not taken
            refine lv_aload_n hx hb d_R_doIt_124 rfl (lv_at hl 3 rfl) ?_
            refine r_get S hK hP 11 (by decide) fl_R_72 rfl d_R_doIt_125 ?_
            refine lv_bipush (v := (23 : Int32)) hx hb d_R_doIt_128 (by decide) ?_
            refine lv_icmp_ge (tgt := 140) hx hb d_R_doIt_130 rfl (fun h_130 => ?_) (fun h_130 => ?_)
            · -- 130: taken
              refine lv_aload_n hx hb d_R_doIt_140 rfl (lv_at hl 3 rfl) ?_
              refine r_get S hK hP 11 (by decide) fl_R_72 rfl d_R_doIt_141 ?_
              refine lv_bipush (v := (32 : Int32)) hx hb d_R_doIt_144 (by decide) ?_
              refine lv_icmp_ne (tgt := 185) hx hb d_R_doIt_146 rfl (fun h_146 => ?_) (fun h_146 => ?_)
              · -- 146: taken
                refine lv_iload_n hx hb d_R_doIt_185 rfl (lv_at hl 1 rfl) ?_
                refine zb_ne (tgt := 202) hx hb d_R_doIt_186 rfl (fun h_186 => ?_) (fun h_186 => ?_)
                · -- 186: taken
                  refine lv_aload_n hx hb d_R_doIt_202 rfl (lv_at hl 3 rfl) ?_
                  refine lv_bipush (v := (8 : Int32)) hx hb d_R_doIt_203 (by decide) ?_
                  refine lv_iload_n hx hb d_R_doIt_205 rfl (lv_at hl 0 rfl) ?_
                  refine c_vV [] S (c_R_move l _ _ _ _ _ _ _ _ _ _ _ _ _ _ _ _ A (rW_D hD) (8 : Int32) (((k_a (cK ((8 : Int32).toNatClampNeg))) + (4 : Int32)) + (if (if co ≤ (3 : Int32) then false else (if (7 : Int32) ≤ co then false else true)) = true then (if (f_R_goes co ra rb cK) = true then ((4 : Int32) * im) else (0 : Int32)) else (0 : Int32))) (by first | assumption | exact in_k rfl | decide)) mf_R_move ml_R_137 hK hN hP hS 0 3 rfl rfl ⟨rfl, rfl, Nat.le_of_ble_eq_true rfl, Nat.le_of_ble_eq_true rfl⟩ rfl hl.1 rfl (Nat.le_of_ble_eq_true rfl) d_R_doIt_206 ⟨Nat.zero_le _, Nat.zero_le _⟩ (fun H locs hP hS => ?_)
                  have hF : f_R_doIt co ra rb rc im hf fM gT cK = (fM, gT, (f_R_move cK (8 : Int32) (((k_a (cK ((8 : Int32).toNatClampNeg))) + (4 : Int32)) + (if (if co ≤ (3 : Int32) then false else (if (7 : Int32) ≤ co then false else true)) = true then (if (f_R_goes co ra rb cK) = true then ((4 : Int32) * im) else (0 : Int32)) else (0 : Int32))))) := (if_neg (bn_f h_97)).trans ((if_neg h_121).trans ((if_pos h_130).trans ((if_neg h_146).trans ((if_pos h_186).trans (rfl)))))
                  exact e_wv S hr hlocks hP hS (congrArg (fun z => rW q xa th ca st co ra rb rc im hf rz z.1 z.2.1 z.2.2) hF.symm) d_R_doIt_209
                · -- 186: not taken
                  refine lv_aload_n hx hb d_R_doIt_189 rfl (lv_at hl 3 rfl) ?_
                  refine r_get S hK hP 11 (by decide) fl_R_72 rfl d_R_doIt_190 ?_
                  refine lv_bipush (v := (32 : Int32)) hx hb d_R_doIt_193 (by decide) ?_
                  refine lv_icmp_eq (tgt := 202) hx hb d_R_doIt_195 rfl (fun h_195 => ?_) (fun h_195 => ?_)
                  · -- 195: taken
                    refine lv_aload_n hx hb d_R_doIt_202 rfl (lv_at hl 3 rfl) ?_
                    refine lv_bipush (v := (8 : Int32)) hx hb d_R_doIt_203 (by decide) ?_
                    refine lv_iload_n hx hb d_R_doIt_205 rfl (lv_at hl 0 rfl) ?_
                    refine c_vV [] S (c_R_move l _ _ _ _ _ _ _ _ _ _ _ _ _ _ _ _ A (rW_D hD) (8 : Int32) (((k_a (cK ((8 : Int32).toNatClampNeg))) + (4 : Int32)) + (if (if co ≤ (3 : Int32) then false else (if (7 : Int32) ≤ co then false else true)) = true then (if (f_R_goes co ra rb cK) = true then ((4 : Int32) * im) else (0 : Int32)) else (0 : Int32))) (by first | assumption | exact in_k rfl | decide)) mf_R_move ml_R_137 hK hN hP hS 0 3 rfl rfl ⟨rfl, rfl, Nat.le_of_ble_eq_true rfl, Nat.le_of_ble_eq_true rfl⟩ rfl hl.1 rfl (Nat.le_of_ble_eq_true rfl) d_R_doIt_206 ⟨Nat.zero_le _, Nat.zero_le _⟩ (fun H locs hP hS => ?_)
                    have hF : f_R_doIt co ra rb rc im hf fM gT cK = (fM, gT, (f_R_move cK (8 : Int32) (((k_a (cK ((8 : Int32).toNatClampNeg))) + (4 : Int32)) + (if (if co ≤ (3 : Int32) then false else (if (7 : Int32) ≤ co then false else true)) = true then (if (f_R_goes co ra rb cK) = true then ((4 : Int32) * im) else (0 : Int32)) else (0 : Int32))))) := (if_neg (bn_f h_97)).trans ((if_neg h_121).trans ((if_pos h_130).trans ((if_neg h_146).trans ((if_neg (bn_f h_186)).trans ((if_pos h_195).trans (rfl))))))
                    exact e_wv S hr hlocks hP hS (congrArg (fun z => rW q xa th ca st co ra rb rc im hf rz z.1 z.2.1 z.2.2) hF.symm) d_R_doIt_209
                  · -- 195: not taken
                    refine lv_aload_n hx hb d_R_doIt_198 rfl (lv_at hl 3 rfl) ?_
                    refine c_vV [] S (c_R_derive l _ _ _ _ _ _ _ _ _ _ _ _ _ _ _ _ A (rW_D hD) (by first | assumption | exact in_k rfl | decide) (by first | assumption | exact in_k rfl | decide) (by first | assumption | exact in_k rfl | decide)) mf_R_derive ml_R_152 hK hN hP hS 0 3 rfl rfl ⟨rfl, rfl, Nat.le_of_ble_eq_true rfl, Nat.le_of_ble_eq_true rfl⟩ rfl hl.1 rfl (Nat.le_of_ble_eq_true rfl) d_R_doIt_199 ⟨Nat.zero_le _, Nat.zero_le _⟩ (fun H locs hP hS => ?_)
                    refine lv_aload_n hx hb d_R_doIt_202 rfl (lv_at hl 3 rfl) ?_
                    refine lv_bipush (v := (8 : Int32)) hx hb d_R_doIt_203 (by decide) ?_
                    refine lv_iload_n hx hb d_R_doIt_205 rfl (lv_at hl 0 rfl) ?_
                    refine c_vV [] S (c_R_move l _ _ _ _ _ _ _ _ _ _ _ _ _ _ _ _ A (rW_D hD) (8 : Int32) (((k_a (cK ((8 : Int32).toNatClampNeg))) + (4 : Int32)) + (if (if co ≤ (3 : Int32) then false else (if (7 : Int32) ≤ co then false else true)) = true then (if (f_R_goes co ra rb cK) = true then ((4 : Int32) * im) else (0 : Int32)) else (0 : Int32))) (by first | assumption | exact in_k rfl | decide)) mf_R_move ml_R_137 hK hN hP hS 0 3 rfl rfl ⟨rfl, rfl, Nat.le_of_ble_eq_true rfl, Nat.le_of_ble_eq_true rfl⟩ rfl hl.1 rfl (Nat.le_of_ble_eq_true rfl) d_R_doIt_206 ⟨Nat.zero_le _, Nat.zero_le _⟩ (fun H locs hP hS => ?_)
                    have hF : f_R_doIt co ra rb rc im hf fM gT cK = (fM, gT, (f_R_move (f_R_derive co ra rb rc im cK) (8 : Int32) (((k_a (cK ((8 : Int32).toNatClampNeg))) + (4 : Int32)) + (if (if co ≤ (3 : Int32) then false else (if (7 : Int32) ≤ co then false else true)) = true then (if (f_R_goes co ra rb cK) = true then ((4 : Int32) * im) else (0 : Int32)) else (0 : Int32))))) := (if_neg (bn_f h_97)).trans ((if_neg h_121).trans ((if_pos h_130).trans ((if_neg h_146).trans ((if_neg (bn_f h_186)).trans ((if_neg h_195).trans (rfl))))))
                    exact e_wv S hr hlocks hP hS (congrArg (fun z => rW q xa th ca st co ra rb rc im hf rz z.1 z.2.1 z.2.2) hF.symm) d_R_doIt_209
              · -- 146: not taken
                refine lv_aload_n hx hb d_R_doIt_149 rfl (lv_at hl 3 rfl) ?_
                refine lv_aload_n hx hb d_R_doIt_150 rfl (lv_at hl 3 rfl) ?_
                refine r_get S hK hP 12 (by decide) fl_R_79 rfl d_R_doIt_151 ?_
                refine c_pV [] S (c_R_usable l _ _ _ _ _ _ _ _ _ _ _ _ _ _ _ _ ra (by first | assumption | exact in_k rfl | decide)) mf_R_usable ml_R_47 hK hN hP 0 3 rfl rfl ⟨rfl, rfl, Nat.le_of_ble_eq_true rfl, Nat.le_of_ble_eq_true rfl⟩ rfl hl.1 rfl (Nat.le_of_ble_eq_true rfl) d_R_doIt_154 ⟨Nat.zero_le _, Nat.zero_le _⟩ ?_
                refine lv_if_ne (tgt := 185) hx hb d_R_doIt_157 rfl (fun h_157 => ?_) (fun h_157 => ?_)
                · -- 157: taken
                  refine lv_iload_n hx hb d_R_doIt_185 rfl (lv_at hl 1 rfl) ?_
                  refine zb_ne (tgt := 202) hx hb d_R_doIt_186 rfl (fun h_186 => ?_) (fun h_186 => ?_)
                  · -- 186: taken
                    refine lv_aload_n hx hb d_R_doIt_202 rfl (lv_at hl 3 rfl) ?_
                    refine lv_bipush (v := (8 : Int32)) hx hb d_R_doIt_203 (by decide) ?_
                    refine lv_iload_n hx hb d_R_doIt_205 rfl (lv_at hl 0 rfl) ?_
                    refine c_vV [] S (c_R_move l _ _ _ _ _ _ _ _ _ _ _ _ _ _ _ _ A (rW_D hD) (8 : Int32) (((k_a (cK ((8 : Int32).toNatClampNeg))) + (4 : Int32)) + (if (if co ≤ (3 : Int32) then false else (if (7 : Int32) ≤ co then false else true)) = true then (if (f_R_goes co ra rb cK) = true then ((4 : Int32) * im) else (0 : Int32)) else (0 : Int32))) (by first | assumption | exact in_k rfl | decide)) mf_R_move ml_R_137 hK hN hP hS 0 3 rfl rfl ⟨rfl, rfl, Nat.le_of_ble_eq_true rfl, Nat.le_of_ble_eq_true rfl⟩ rfl hl.1 rfl (Nat.le_of_ble_eq_true rfl) d_R_doIt_206 ⟨Nat.zero_le _, Nat.zero_le _⟩ (fun H locs hP hS => ?_)
                    have hF : f_R_doIt co ra rb rc im hf fM gT cK = (fM, gT, (f_R_move cK (8 : Int32) (((k_a (cK ((8 : Int32).toNatClampNeg))) + (4 : Int32)) + (if (if co ≤ (3 : Int32) then false else (if (7 : Int32) ≤ co then false else true)) = true then (if (f_R_goes co ra rb cK) = true then ((4 : Int32) * im) else (0 : Int32)) else (0 : Int32))))) := (if_neg (bn_f h_97)).trans ((if_neg h_121).trans ((if_pos h_130).trans ((if_pos h_146).trans ((if_neg h_157).trans ((if_pos h_186).trans (rfl))))))
                    exact e_wv S hr hlocks hP hS (congrArg (fun z => rW q xa th ca st co ra rb rc im hf rz z.1 z.2.1 z.2.2) hF.symm) d_R_doIt_209
                  · -- 186: not taken
                    refine lv_aload_n hx hb d_R_doIt_189 rfl (lv_at hl 3 rfl) ?_
                    refine r_get S hK hP 11 (by decide) fl_R_72 rfl d_R_doIt_190 ?_
                    refine lv_bipush (v := (32 : Int32)) hx hb d_R_doIt_193 (by decide) ?_
                    refine lv_icmp_eq (tgt := 202) hx hb d_R_doIt_195 rfl (fun h_195 => ?_) (fun h_195 => ?_)
                    · -- 195: taken
                      refine lv_aload_n hx hb d_R_doIt_202 rfl (lv_at hl 3 rfl) ?_
                      refine lv_bipush (v := (8 : Int32)) hx hb d_R_doIt_203 (by decide) ?_
                      refine lv_iload_n hx hb d_R_doIt_205 rfl (lv_at hl 0 rfl) ?_
                      refine c_vV [] S (c_R_move l _ _ _ _ _ _ _ _ _ _ _ _ _ _ _ _ A (rW_D hD) (8 : Int32) (((k_a (cK ((8 : Int32).toNatClampNeg))) + (4 : Int32)) + (if (if co ≤ (3 : Int32) then false else (if (7 : Int32) ≤ co then false else true)) = true then (if (f_R_goes co ra rb cK) = true then ((4 : Int32) * im) else (0 : Int32)) else (0 : Int32))) (by first | assumption | exact in_k rfl | decide)) mf_R_move ml_R_137 hK hN hP hS 0 3 rfl rfl ⟨rfl, rfl, Nat.le_of_ble_eq_true rfl, Nat.le_of_ble_eq_true rfl⟩ rfl hl.1 rfl (Nat.le_of_ble_eq_true rfl) d_R_doIt_206 ⟨Nat.zero_le _, Nat.zero_le _⟩ (fun H locs hP hS => ?_)
                      have hF : f_R_doIt co ra rb rc im hf fM gT cK = (fM, gT, (f_R_move cK (8 : Int32) (((k_a (cK ((8 : Int32).toNatClampNeg))) + (4 : Int32)) + (if (if co ≤ (3 : Int32) then false else (if (7 : Int32) ≤ co then false else true)) = true then (if (f_R_goes co ra rb cK) = true then ((4 : Int32) * im) else (0 : Int32)) else (0 : Int32))))) := (if_neg (bn_f h_97)).trans ((if_neg h_121).trans ((if_pos h_130).trans ((if_pos h_146).trans ((if_neg h_157).trans ((if_neg (bn_f h_186)).trans ((if_pos h_195).trans (rfl)))))))
                      exact e_wv S hr hlocks hP hS (congrArg (fun z => rW q xa th ca st co ra rb rc im hf rz z.1 z.2.1 z.2.2) hF.symm) d_R_doIt_209
                    · -- 195: not taken
                      refine lv_aload_n hx hb d_R_doIt_198 rfl (lv_at hl 3 rfl) ?_
                      refine c_vV [] S (c_R_derive l _ _ _ _ _ _ _ _ _ _ _ _ _ _ _ _ A (rW_D hD) (by first | assumption | exact in_k rfl | decide) (by first | assumption | exact in_k rfl | decide) (by first | assumption | exact in_k rfl | decide)) mf_R_derive ml_R_152 hK hN hP hS 0 3 rfl rfl ⟨rfl, rfl, Nat.le_of_ble_eq_true rfl, Nat.le_of_ble_eq_true rfl⟩ rfl hl.1 rfl (Nat.le_of_ble_eq_true rfl) d_R_doIt_199 ⟨Nat.zero_le _, Nat.zero_le _⟩ (fun H locs hP hS => ?_)
                      refine lv_aload_n hx hb d_R_doIt_202 rfl (lv_at hl 3 rfl) ?_
                      refine lv_bipush (v := (8 : Int32)) hx hb d_R_doIt_203 (by decide) ?_
                      refine lv_iload_n hx hb d_R_doIt_205 rfl (lv_at hl 0 rfl) ?_
                      refine c_vV [] S (c_R_move l _ _ _ _ _ _ _ _ _ _ _ _ _ _ _ _ A (rW_D hD) (8 : Int32) (((k_a (cK ((8 : Int32).toNatClampNeg))) + (4 : Int32)) + (if (if co ≤ (3 : Int32) then false else (if (7 : Int32) ≤ co then false else true)) = true then (if (f_R_goes co ra rb cK) = true then ((4 : Int32) * im) else (0 : Int32)) else (0 : Int32))) (by first | assumption | exact in_k rfl | decide)) mf_R_move ml_R_137 hK hN hP hS 0 3 rfl rfl ⟨rfl, rfl, Nat.le_of_ble_eq_true rfl, Nat.le_of_ble_eq_true rfl⟩ rfl hl.1 rfl (Nat.le_of_ble_eq_true rfl) d_R_doIt_206 ⟨Nat.zero_le _, Nat.zero_le _⟩ (fun H locs hP hS => ?_)
                      have hF : f_R_doIt co ra rb rc im hf fM gT cK = (fM, gT, (f_R_move (f_R_derive co ra rb rc im cK) (8 : Int32) (((k_a (cK ((8 : Int32).toNatClampNeg))) + (4 : Int32)) + (if (if co ≤ (3 : Int32) then false else (if (7 : Int32) ≤ co then false else true)) = true then (if (f_R_goes co ra rb cK) = true then ((4 : Int32) * im) else (0 : Int32)) else (0 : Int32))))) := (if_neg (bn_f h_97)).trans ((if_neg h_121).trans ((if_pos h_130).trans ((if_pos h_146).trans ((if_neg h_157).trans ((if_neg (bn_f h_186)).trans ((if_neg h_195).trans (rfl)))))))
                      exact e_wv S hr hlocks hP hS (congrArg (fun z => rW q xa th ca st co ra rb rc im hf rz z.1 z.2.1 z.2.2) hF.symm) d_R_doIt_209
                · -- 157: not taken
                  refine lv_aload_n hx hb d_R_doIt_160 rfl (lv_at hl 3 rfl) ?_
                  refine lv_aload_n hx hb d_R_doIt_161 rfl (lv_at hl 3 rfl) ?_
                  refine r_get S hK hP 12 (by decide) fl_R_79 rfl d_R_doIt_162 ?_
                  refine lv_iconst (v := (4 : Int32)) hx hb d_R_doIt_165 (by decide) ?_
                  refine c_pV [] S (c_R_may l _ _ _ _ _ _ _ _ _ _ _ _ _ _ _ _ ra (4 : Int32) (by first | assumption | exact in_k rfl | decide)) mf_R_may ml_R_51 hK hN hP 0 3 rfl rfl ⟨rfl, rfl, Nat.le_of_ble_eq_true rfl, Nat.le_of_ble_eq_true rfl⟩ rfl hl.1 rfl (Nat.le_of_ble_eq_true rfl) d_R_doIt_166 ⟨Nat.zero_le _, Nat.zero_le _⟩ ?_
                  refine zb_eq (tgt := 185) hx hb d_R_doIt_169 rfl (fun h_169 => ?_) (fun h_169 => ?_)
                  · -- 169: taken
                    refine lv_iload_n hx hb d_R_doIt_185 rfl (lv_at hl 1 rfl) ?_
                    refine zb_ne (tgt := 202) hx hb d_R_doIt_186 rfl (fun h_186 => ?_) (fun h_186 => ?_)
                    · -- 186: taken
                      refine lv_aload_n hx hb d_R_doIt_202 rfl (lv_at hl 3 rfl) ?_
                      refine lv_bipush (v := (8 : Int32)) hx hb d_R_doIt_203 (by decide) ?_
                      refine lv_iload_n hx hb d_R_doIt_205 rfl (lv_at hl 0 rfl) ?_
                      refine c_vV [] S (c_R_move l _ _ _ _ _ _ _ _ _ _ _ _ _ _ _ _ A (rW_D hD) (8 : Int32) (((k_a (cK ((8 : Int32).toNatClampNeg))) + (4 : Int32)) + (if (if co ≤ (3 : Int32) then false else (if (7 : Int32) ≤ co then false else true)) = true then (if (f_R_goes co ra rb cK) = true then ((4 : Int32) * im) else (0 : Int32)) else (0 : Int32))) (by first | assumption | exact in_k rfl | decide)) mf_R_move ml_R_137 hK hN hP hS 0 3 rfl rfl ⟨rfl, rfl, Nat.le_of_ble_eq_true rfl, Nat.le_of_ble_eq_true rfl⟩ rfl hl.1 rfl (Nat.le_of_ble_eq_true rfl) d_R_doIt_206 ⟨Nat.zero_le _, Nat.zero_le _⟩ (fun H locs hP hS => ?_)
                      have hF : f_R_doIt co ra rb rc im hf fM gT cK = (fM, gT, (f_R_move cK (8 : Int32) (((k_a (cK ((8 : Int32).toNatClampNeg))) + (4 : Int32)) + (if (if co ≤ (3 : Int32) then false else (if (7 : Int32) ≤ co then false else true)) = true then (if (f_R_goes co ra rb cK) = true then ((4 : Int32) * im) else (0 : Int32)) else (0 : Int32))))) := (if_neg (bn_f h_97)).trans ((if_neg h_121).trans ((if_pos h_130).trans ((if_pos h_146).trans ((if_pos h_157).trans ((if_neg (bn_f h_169)).trans ((if_pos h_186).trans (rfl)))))))
                      exact e_wv S hr hlocks hP hS (congrArg (fun z => rW q xa th ca st co ra rb rc im hf rz z.1 z.2.1 z.2.2) hF.symm) d_R_doIt_209
                    · -- 186: not taken
                      refine lv_aload_n hx hb d_R_doIt_189 rfl (lv_at hl 3 rfl) ?_
                      refine r_get S hK hP 11 (by decide) fl_R_72 rfl d_R_doIt_190 ?_
                      refine lv_bipush (v := (32 : Int32)) hx hb d_R_doIt_193 (by decide) ?_
                      refine lv_icmp_eq (tgt := 202) hx hb d_R_doIt_195 rfl (fun h_195 => ?_) (fun h_195 => ?_)
                      · -- 195: taken
                        refine lv_aload_n hx hb d_R_doIt_202 rfl (lv_at hl 3 rfl) ?_
                        refine lv_bipush (v := (8 : Int32)) hx hb d_R_doIt_203 (by decide) ?_
                        refine lv_iload_n hx hb d_R_doIt_205 rfl (lv_at hl 0 rfl) ?_
                        refine c_vV [] S (c_R_move l _ _ _ _ _ _ _ _ _ _ _ _ _ _ _ _ A (rW_D hD) (8 : Int32) (((k_a (cK ((8 : Int32).toNatClampNeg))) + (4 : Int32)) + (if (if co ≤ (3 : Int32) then false else (if (7 : Int32) ≤ co then false else true)) = true then (if (f_R_goes co ra rb cK) = true then ((4 : Int32) * im) else (0 : Int32)) else (0 : Int32))) (by first | assumption | exact in_k rfl | decide)) mf_R_move ml_R_137 hK hN hP hS 0 3 rfl rfl ⟨rfl, rfl, Nat.le_of_ble_eq_true rfl, Nat.le_of_ble_eq_true rfl⟩ rfl hl.1 rfl (Nat.le_of_ble_eq_true rfl) d_R_doIt_206 ⟨Nat.zero_le _, Nat.zero_le _⟩ (fun H locs hP hS => ?_)
                        have hF : f_R_doIt co ra rb rc im hf fM gT cK = (fM, gT, (f_R_move cK (8 : Int32) (((k_a (cK ((8 : Int32).toNatClampNeg))) + (4 : Int32)) + (if (if co ≤ (3 : Int32) then false else (if (7 : Int32) ≤ co then false else true)) = true then (if (f_R_goes co ra rb cK) = true then ((4 : Int32) * im) else (0 : Int32)) else (0 : Int32))))) := (if_neg (bn_f h_97)).trans ((if_neg h_121).trans ((if_pos h_130).trans ((if_pos h_146).trans ((if_pos h_157).trans ((if_neg (bn_f h_169)).trans ((if_neg (bn_f h_186)).trans ((if_pos h_195).trans (rfl))))))))
                        exact e_wv S hr hlocks hP hS (congrArg (fun z => rW q xa th ca st co ra rb rc im hf rz z.1 z.2.1 z.2.2) hF.symm) d_R_doIt_209
                      · -- 195: not taken
                        refine lv_aload_n hx hb d_R_doIt_198 rfl (lv_at hl 3 rfl) ?_
                        refine c_vV [] S (c_R_derive l _ _ _ _ _ _ _ _ _ _ _ _ _ _ _ _ A (rW_D hD) (by first | assumption | exact in_k rfl | decide) (by first | assumption | exact in_k rfl | decide) (by first | assumption | exact in_k rfl | decide)) mf_R_derive ml_R_152 hK hN hP hS 0 3 rfl rfl ⟨rfl, rfl, Nat.le_of_ble_eq_true rfl, Nat.le_of_ble_eq_true rfl⟩ rfl hl.1 rfl (Nat.le_of_ble_eq_true rfl) d_R_doIt_199 ⟨Nat.zero_le _, Nat.zero_le _⟩ (fun H locs hP hS => ?_)
                        refine lv_aload_n hx hb d_R_doIt_202 rfl (lv_at hl 3 rfl) ?_
                        refine lv_bipush (v := (8 : Int32)) hx hb d_R_doIt_203 (by decide) ?_
                        refine lv_iload_n hx hb d_R_doIt_205 rfl (lv_at hl 0 rfl) ?_
                        refine c_vV [] S (c_R_move l _ _ _ _ _ _ _ _ _ _ _ _ _ _ _ _ A (rW_D hD) (8 : Int32) (((k_a (cK ((8 : Int32).toNatClampNeg))) + (4 : Int32)) + (if (if co ≤ (3 : Int32) then false else (if (7 : Int32) ≤ co then false else true)) = true then (if (f_R_goes co ra rb cK) = true then ((4 : Int32) * im) else (0 : Int32)) else (0 : Int32))) (by first | assumption | exact in_k rfl | decide)) mf_R_move ml_R_137 hK hN hP hS 0 3 rfl rfl ⟨rfl, rfl, Nat.le_of_ble_eq_true rfl, Nat.le_of_ble_eq_true rfl⟩ rfl hl.1 rfl (Nat.le_of_ble_eq_true rfl) d_R_doIt_206 ⟨Nat.zero_le _, Nat.zero_le _⟩ (fun H locs hP hS => ?_)
                        have hF : f_R_doIt co ra rb rc im hf fM gT cK = (fM, gT, (f_R_move (f_R_derive co ra rb rc im cK) (8 : Int32) (((k_a (cK ((8 : Int32).toNatClampNeg))) + (4 : Int32)) + (if (if co ≤ (3 : Int32) then false else (if (7 : Int32) ≤ co then false else true)) = true then (if (f_R_goes co ra rb cK) = true then ((4 : Int32) * im) else (0 : Int32)) else (0 : Int32))))) := (if_neg (bn_f h_97)).trans ((if_neg h_121).trans ((if_pos h_130).trans ((if_pos h_146).trans ((if_pos h_157).trans ((if_neg (bn_f h_169)).trans ((if_neg (bn_f h_186)).trans ((if_neg h_195).trans (rfl))))))))
                        exact e_wv S hr hlocks hP hS (congrArg (fun z => rW q xa th ca st co ra rb rc im hf rz z.1 z.2.1 z.2.2) hF.symm) d_R_doIt_209
                  · -- 169: not taken
                    refine lv_aload_n hx hb d_R_doIt_172 rfl (lv_at hl 3 rfl) ?_
                    refine lv_aload_n hx hb d_R_doIt_173 rfl (lv_at hl 3 rfl) ?_
                    refine r_get S hK hP 12 (by decide) fl_R_79 rfl d_R_doIt_174 ?_
                    refine lv_bipush (v := (9 : Int32)) hx hb d_R_doIt_177 (by decide) ?_
                    refine c_vV [] S (c_R_copy l _ _ _ _ _ _ _ _ _ _ _ _ _ _ _ _ A (rW_D hD) ra (9 : Int32) (by first | assumption | exact in_k rfl | decide) (by first | assumption | exact in_k rfl | decide)) mf_R_copy ml_R_134 hK hN hP hS 0 3 rfl rfl ⟨rfl, rfl, Nat.le_of_ble_eq_true rfl, Nat.le_of_ble_eq_true rfl⟩ rfl hl.1 rfl (Nat.le_of_ble_eq_true rfl) d_R_doIt_179 ⟨Nat.zero_le _, Nat.zero_le _⟩ (fun H locs hP hS => ?_)
                    refine lv_goto (tgt := 202) hx hb d_R_doIt_182 rfl ?_
                    refine lv_aload_n hx hb d_R_doIt_202 rfl (lv_at hl 3 rfl) ?_
                    refine lv_bipush (v := (8 : Int32)) hx hb d_R_doIt_203 (by decide) ?_
                    refine lv_iload_n hx hb d_R_doIt_205 rfl (lv_at hl 0 rfl) ?_
                    refine c_vV [] S (c_R_move l _ _ _ _ _ _ _ _ _ _ _ _ _ _ _ _ A (rW_D hD) (8 : Int32) (((k_a (cK ((8 : Int32).toNatClampNeg))) + (4 : Int32)) + (if (if co ≤ (3 : Int32) then false else (if (7 : Int32) ≤ co then false else true)) = true then (if (f_R_goes co ra rb cK) = true then ((4 : Int32) * im) else (0 : Int32)) else (0 : Int32))) (by first | assumption | exact in_k rfl | decide)) mf_R_move ml_R_137 hK hN hP hS 0 3 rfl rfl ⟨rfl, rfl, Nat.le_of_ble_eq_true rfl, Nat.le_of_ble_eq_true rfl⟩ rfl hl.1 rfl (Nat.le_of_ble_eq_true rfl) d_R_doIt_206 ⟨Nat.zero_le _, Nat.zero_le _⟩ (fun H locs hP hS => ?_)
                    have hF : f_R_doIt co ra rb rc im hf fM gT cK = (fM, gT, (f_R_move (f_R_copy cK ra (9 : Int32)) (8 : Int32) (((k_a (cK ((8 : Int32).toNatClampNeg))) + (4 : Int32)) + (if (if co ≤ (3 : Int32) then false else (if (7 : Int32) ≤ co then false else true)) = true then (if (f_R_goes co ra rb cK) = true then ((4 : Int32) * im) else (0 : Int32)) else (0 : Int32))))) := (if_neg (bn_f h_97)).trans ((if_neg h_121).trans ((if_pos h_130).trans ((if_pos h_146).trans ((if_pos h_157).trans ((if_pos h_169).trans (rfl))))))
                    exact e_wv S hr hlocks hP hS (congrArg (fun z => rW q xa th ca st co ra rb rc im hf rz z.1 z.2.1 z.2.2) hF.symm) d_R_doIt_209
            · -- 130: not taken
              refine lv_aload_n hx hb d_R_doIt_133 rfl (lv_at hl 3 rfl) ?_
              refine c_vV [] S (c_R_access l _ _ _ _ _ _ _ _ _ _ _ _ _ _ _ _ A (rW_D hD) (by first | assumption | exact in_k rfl | decide) (by first | assumption | exact in_k rfl | decide) (hq h_121 h_130)) mf_R_access ml_R_149 hK hN hP hS 0 3 rfl rfl ⟨rfl, rfl, Nat.le_of_ble_eq_true rfl, Nat.le_of_ble_eq_true rfl⟩ rfl hl.1 rfl (Nat.le_of_ble_eq_true rfl) d_R_doIt_134 ⟨Nat.zero_le _, Nat.zero_le _⟩ (fun H locs hP hS => ?_)
              refine lv_goto (tgt := 202) hx hb d_R_doIt_137 rfl ?_
              refine lv_aload_n hx hb d_R_doIt_202 rfl (lv_at hl 3 rfl) ?_
              refine lv_bipush (v := (8 : Int32)) hx hb d_R_doIt_203 (by decide) ?_
              refine lv_iload_n hx hb d_R_doIt_205 rfl (lv_at hl 0 rfl) ?_
              refine c_vV [] S (c_R_move l _ _ _ _ _ _ _ _ _ _ _ _ _ _ _ _ A (rW_D hD) (8 : Int32) (((k_a (cK ((8 : Int32).toNatClampNeg))) + (4 : Int32)) + (if (if co ≤ (3 : Int32) then false else (if (7 : Int32) ≤ co then false else true)) = true then (if (f_R_goes co ra rb cK) = true then ((4 : Int32) * im) else (0 : Int32)) else (0 : Int32))) (by first | assumption | exact in_k rfl | decide)) mf_R_move ml_R_137 hK hN hP hS 0 3 rfl rfl ⟨rfl, rfl, Nat.le_of_ble_eq_true rfl, Nat.le_of_ble_eq_true rfl⟩ rfl hl.1 rfl (Nat.le_of_ble_eq_true rfl) d_R_doIt_206 ⟨Nat.zero_le _, Nat.zero_le _⟩ (fun H locs hP hS => ?_)
              have hF : f_R_doIt co ra rb rc im hf fM gT cK = ((f_R_access co ra rb im fM gT cK).1, (f_R_access co ra rb im fM gT cK).2.1, (f_R_move ((f_R_access co ra rb im fM gT cK).2.2) (8 : Int32) (((k_a (cK ((8 : Int32).toNatClampNeg))) + (4 : Int32)) + (if (if co ≤ (3 : Int32) then false else (if (7 : Int32) ≤ co then false else true)) = true then (if (f_R_goes co ra rb cK) = true then ((4 : Int32) * im) else (0 : Int32)) else (0 : Int32))))) := (if_neg (bn_f h_97)).trans ((if_neg h_121).trans ((if_neg h_130).trans (rfl)))
              exact e_wv S hr hlocks hP hS (congrArg (fun z => rW q xa th ca st co ra rb rc im hf rz z.1 z.2.1 z.2.2) hF.symm) d_R_doIt_209
        · -- 97: not taken
          refine lv_aload_n hx hb d_R_doIt_100 rfl (lv_at hl 3 rfl) ?_
          refine lv_aload_n hx hb d_R_doIt_101 rfl (lv_at hl 3 rfl) ?_
          refine r_get S hK hP 12 (by decide) fl_R_79 rfl d_R_doIt_102 ?_
          refine lv_aload_n hx hb d_R_doIt_105 rfl (lv_at hl 3 rfl) ?_
          refine c_pV [.int ra, .ref (xa 0)] S (c_R_reckon l _ _ _ _ _ _ _ _ _ _ _ _ _ _ _ _ (by first | assumption | exact in_k rfl | decide) (by first | assumption | exact in_k rfl | decide)) mf_R_reckon ml_R_146 hK hN hP 0 3 rfl rfl ⟨rfl, rfl, Nat.le_of_ble_eq_true rfl, Nat.le_of_ble_eq_true rfl⟩ rfl hl.1 rfl (Nat.le_of_ble_eq_true rfl) d_R_doIt_106 ⟨Nat.zero_le _, Nat.zero_le _⟩ ?_
          refine c_vV [] S (c_R_number l _ _ _ _ _ _ _ _ _ _ _ _ _ _ _ _ A (rW_D hD) ra (f_R_reckon co rb rc hf cK) (by first | assumption | exact in_k rfl | decide)) mf_R_number ml_R_114 hK hN hP hS 0 3 rfl rfl ⟨rfl, rfl, Nat.le_of_ble_eq_true rfl, Nat.le_of_ble_eq_true rfl⟩ rfl hl.1 rfl (Nat.le_of_ble_eq_true rfl) d_R_doIt_109 ⟨Nat.zero_le _, Nat.zero_le _⟩ (fun H locs hP hS => ?_)
          refine lv_goto (tgt := 202) hx hb d_R_doIt_112 rfl ?_
          refine lv_aload_n hx hb d_R_doIt_202 rfl (lv_at hl 3 rfl) ?_
          refine lv_bipush (v := (8 : Int32)) hx hb d_R_doIt_203 (by decide) ?_
          refine lv_iload_n hx hb d_R_doIt_205 rfl (lv_at hl 0 rfl) ?_
          refine c_vV [] S (c_R_move l _ _ _ _ _ _ _ _ _ _ _ _ _ _ _ _ A (rW_D hD) (8 : Int32) (((k_a (cK ((8 : Int32).toNatClampNeg))) + (4 : Int32)) + (if (if co ≤ (3 : Int32) then false else (if (7 : Int32) ≤ co then false else true)) = true then (if (f_R_goes co ra rb cK) = true then ((4 : Int32) * im) else (0 : Int32)) else (0 : Int32))) (by first | assumption | exact in_k rfl | decide)) mf_R_move ml_R_137 hK hN hP hS 0 3 rfl rfl ⟨rfl, rfl, Nat.le_of_ble_eq_true rfl, Nat.le_of_ble_eq_true rfl⟩ rfl hl.1 rfl (Nat.le_of_ble_eq_true rfl) d_R_doIt_206 ⟨Nat.zero_le _, Nat.zero_le _⟩ (fun H locs hP hS => ?_)
          have hF : f_R_doIt co ra rb rc im hf fM gT cK = (fM, gT, (f_R_move (f_R_number cK ra (f_R_reckon co rb rc hf cK)) (8 : Int32) (((k_a (cK ((8 : Int32).toNatClampNeg))) + (4 : Int32)) + (if (if co ≤ (3 : Int32) then false else (if (7 : Int32) ≤ co then false else true)) = true then (if (f_R_goes co ra rb cK) = true then ((4 : Int32) * im) else (0 : Int32)) else (0 : Int32))))) := (if_pos h_97).trans (rfl)
          exact e_wv S hr hlocks hP hS (congrArg (fun z => rW q xa th ca st co ra rb rc im hf rz z.1 z.2.1 z.2.2) hF.symm) d_R_doIt_209
      · -- to 94
        refine zb_eq (tgt := 93) hx hb d_R_doIt_74 rfl (fun h_74 => ?_) (fun h_74 => ?_)
        · -- 74: taken
          refine lv_iconst (v := (0 : Int32)) hx hb d_R_doIt_93 (by decide) ?_
          exact k_94 _ ((if_neg (bn_f h_74)).trans (rfl) : (if (if co ≤ (3 : Int32) then false else (if (7 : Int32) ≤ co then false else true)) = true then (if (f_R_goes co ra rb cK) = true then ((4 : Int32) * im) else (0 : Int32)) else (0 : Int32)) = (0 : Int32)).symm
        · -- 74: not taken
          refine lv_aload_n hx hb d_R_doIt_77 rfl (lv_at hl 2 rfl) ?_
          refine c_pV [.int ((k_a (cK ((8 : Int32).toNatClampNeg))) + (4 : Int32))] S (c_R_goes l _ _ _ _ _ _ _ _ _ _ _ _ _ _ _ _ (by first | assumption | exact in_k rfl | decide) (by first | assumption | exact in_k rfl | decide)) mf_R_goes ml_R_143 hK hN hP 0 3 rfl rfl ⟨rfl, rfl, Nat.le_of_ble_eq_true rfl, Nat.le_of_ble_eq_true rfl⟩ rfl hl.1 rfl (Nat.le_of_ble_eq_true rfl) d_R_doIt_78 ⟨Nat.zero_le _, Nat.zero_le _⟩ ?_
          refine zb_eq (tgt := 93) hx hb d_R_doIt_81 rfl (fun h_81 => ?_) (fun h_81 => ?_)
          · -- 81: taken
            refine lv_iconst (v := (0 : Int32)) hx hb d_R_doIt_93 (by decide) ?_
            exact k_94 _ ((if_pos h_74).trans ((if_neg (bn_f h_81)).trans (rfl)) : (if (if co ≤ (3 : Int32) then false else (if (7 : Int32) ≤ co then false else true)) = true then (if (f_R_goes co ra rb cK) = true then ((4 : Int32) * im) else (0 : Int32)) else (0 : Int32)) = (0 : Int32)).symm
          · -- 81: not taken
            refine lv_iconst (v := (4 : Int32)) hx hb d_R_doIt_84 (by decide) ?_
            refine lv_aload_n hx hb d_R_doIt_85 rfl (lv_at hl 2 rfl) ?_
            refine r_get S hK hP 15 (by decide) fl_R_82 rfl d_R_doIt_86 ?_
            refine lv_imul hx hb d_R_doIt_89 ?_
            refine lv_goto (tgt := 94) hx hb d_R_doIt_90 rfl ?_
            exact k_94 _ ((if_pos h_74).trans ((if_pos h_81).trans (rfl)) : (if (if co ≤ (3 : Int32) then false else (if (7 : Int32) ≤ co then false else true)) = true then (if (f_R_goes co ra rb cK) = true then ((4 : Int32) * im) else (0 : Int32)) else (0 : Int32)) = (4 : Int32) * im).symm
    · -- to 63
      refine lv_icmp_le (tgt := 62) hx hb d_R_doIt_46 rfl (fun h_46 => ?_) (fun h_46 => ?_)
      · -- 46: taken
        refine lv_iconst (v := (0 : Int32)) hx hb d_R_doIt_62 (by decide) ?_
        exact k_63 _ (congrArg b2i ((if_pos h_46).trans (rfl) : (if co ≤ (3 : Int32) then false else (if (7 : Int32) ≤ co then false else true)) = false).symm)
      · -- 46: not taken
        refine lv_aload_n hx hb d_R_doIt_49 rfl (lv_at hl 1 rfl) ?_
        refine r_get S hK hP 11 (by decide) fl_R_72 rfl d_R_doIt_50 ?_
        refine lv_bipush (v := (7 : Int32)) hx hb d_R_doIt_53 (by decide) ?_
        refine lv_icmp_ge (tgt := 62) hx hb d_R_doIt_55 rfl (fun h_55 => ?_) (fun h_55 => ?_)
        · -- 55: taken
          refine lv_iconst (v := (0 : Int32)) hx hb d_R_doIt_62 (by decide) ?_
          exact k_63 _ (congrArg b2i ((if_neg h_46).trans ((if_pos h_55).trans (rfl)) : (if co ≤ (3 : Int32) then false else (if (7 : Int32) ≤ co then false else true)) = false).symm)
        · -- 55: not taken
          refine lv_iconst (v := (1 : Int32)) hx hb d_R_doIt_58 (by decide) ?_
          refine lv_goto (tgt := 63) hx hb d_R_doIt_59 rfl ?_
          exact k_63 _ (congrArg b2i ((if_neg h_46).trans ((if_neg h_55).trans (rfl)) : (if co ≤ (3 : Int32) then false else (if (7 : Int32) ≤ co then false else true)) = true).symm)
  · -- to 40
    refine lv_icmp_lt (tgt := 35) hx hb d_R_doIt_5 rfl (fun h_5 => ?_) (fun h_5 => ?_)
    · -- 5: taken
      refine lv_iconst (v := (1 : Int32)) hx hb d_R_doIt_35 (by decide) ?_
      refine lv_goto (tgt := 40) hx hb d_R_doIt_36 rfl ?_
      exact k_40 _ (congrArg b2i ((if_pos h_5).trans (rfl) : (if co < (4 : Int32) then true else (if co ≤ (22 : Int32) then (if co = (30 : Int32) then true else false) else (if co < (29 : Int32) then true else (if co = (30 : Int32) then true else false)))) = true).symm)
    · -- 5: not taken
      refine lv_aload_n hx hb d_R_doIt_8 rfl (lv_at hl 0 rfl) ?_
      refine r_get S hK hP 11 (by decide) fl_R_72 rfl d_R_doIt_9 ?_
      refine lv_bipush (v := (22 : Int32)) hx hb d_R_doIt_12 (by decide) ?_
      refine lv_icmp_le (tgt := 26) hx hb d_R_doIt_14 rfl (fun h_14 => ?_) (fun h_14 => ?_)
      · -- 14: taken
        refine lv_aload_n hx hb d_R_doIt_26 rfl (lv_at hl 0 rfl) ?_
        refine r_get S hK hP 11 (by decide) fl_R_72 rfl d_R_doIt_27 ?_
        refine lv_bipush (v := (30 : Int32)) hx hb d_R_doIt_30 (by decide) ?_
        refine lv_icmp_ne (tgt := 39) hx hb d_R_doIt_32 rfl (fun h_32 => ?_) (fun h_32 => ?_)
        · -- 32: taken
          refine lv_iconst (v := (0 : Int32)) hx hb d_R_doIt_39 (by decide) ?_
          exact k_40 _ (congrArg b2i ((if_neg h_5).trans ((if_pos h_14).trans ((if_neg h_32).trans (rfl))) : (if co < (4 : Int32) then true else (if co ≤ (22 : Int32) then (if co = (30 : Int32) then true else false) else (if co < (29 : Int32) then true else (if co = (30 : Int32) then true else false)))) = false).symm)
        · -- 32: not taken
          refine lv_iconst (v := (1 : Int32)) hx hb d_R_doIt_35 (by decide) ?_
          refine lv_goto (tgt := 40) hx hb d_R_doIt_36 rfl ?_
          exact k_40 _ (congrArg b2i ((if_neg h_5).trans ((if_pos h_14).trans ((if_pos h_32).trans (rfl))) : (if co < (4 : Int32) then true else (if co ≤ (22 : Int32) then (if co = (30 : Int32) then true else false) else (if co < (29 : Int32) then true else (if co = (30 : Int32) then true else false)))) = true).symm)
      · -- 14: not taken
        refine lv_aload_n hx hb d_R_doIt_17 rfl (lv_at hl 0 rfl) ?_
        refine r_get S hK hP 11 (by decide) fl_R_72 rfl d_R_doIt_18 ?_
        refine lv_bipush (v := (29 : Int32)) hx hb d_R_doIt_21 (by decide) ?_
        refine lv_icmp_lt (tgt := 35) hx hb d_R_doIt_23 rfl (fun h_23 => ?_) (fun h_23 => ?_)
        · -- 23: taken
          refine lv_iconst (v := (1 : Int32)) hx hb d_R_doIt_35 (by decide) ?_
          refine lv_goto (tgt := 40) hx hb d_R_doIt_36 rfl ?_
          exact k_40 _ (congrArg b2i ((if_neg h_5).trans ((if_neg h_14).trans ((if_pos h_23).trans (rfl))) : (if co < (4 : Int32) then true else (if co ≤ (22 : Int32) then (if co = (30 : Int32) then true else false) else (if co < (29 : Int32) then true else (if co = (30 : Int32) then true else false)))) = true).symm)
        · -- 23: not taken
          refine lv_aload_n hx hb d_R_doIt_26 rfl (lv_at hl 0 rfl) ?_
          refine r_get S hK hP 11 (by decide) fl_R_72 rfl d_R_doIt_27 ?_
          refine lv_bipush (v := (30 : Int32)) hx hb d_R_doIt_30 (by decide) ?_
          refine lv_icmp_ne (tgt := 39) hx hb d_R_doIt_32 rfl (fun h_32 => ?_) (fun h_32 => ?_)
          · -- 32: taken
            refine lv_iconst (v := (0 : Int32)) hx hb d_R_doIt_39 (by decide) ?_
            exact k_40 _ (congrArg b2i ((if_neg h_5).trans ((if_neg h_14).trans ((if_neg h_23).trans ((if_neg h_32).trans (rfl)))) : (if co < (4 : Int32) then true else (if co ≤ (22 : Int32) then (if co = (30 : Int32) then true else false) else (if co < (29 : Int32) then true else (if co = (30 : Int32) then true else false)))) = false).symm)
          · -- 32: not taken
            refine lv_iconst (v := (1 : Int32)) hx hb d_R_doIt_35 (by decide) ?_
            refine lv_goto (tgt := 40) hx hb d_R_doIt_36 rfl ?_
            exact k_40 _ (congrArg b2i ((if_neg h_5).trans ((if_neg h_14).trans ((if_neg h_23).trans ((if_pos h_32).trans (rfl)))) : (if co < (4 : Int32) then true else (if co ≤ (22 : Int32) then (if co = (30 : Int32) then true else false) else (if co < (29 : Int32) then true else (if co = (30 : Int32) then true else false)))) = true).symm)
def f_R_step (ca : Int32) (st : Int32) (co : Int32) (ra : Int32) (rb : Int32) (rc : Int32) (im : Int32) (hf : Int32) (fM : Nat → Int32) (gT : Nat → Bool) (cK : Nat → Cp) : Int32 × Int32 × Int32 × Int32 × Int32 × Int32 × Int32 × Int32 × Bool × (Nat → Int32) × (Nat → Bool) × (Nat → Cp) :=
  if (f_R_allow cK (8 : Int32) ((k_a (cK ((8 : Int32).toNatClampNeg))).toInt64) (4 : Int32) (4 : Int32)) = (0 : Int32) then (if (if (f_R_exception ((f_R_fetch fM (k_a (cK ((8 : Int32).toNatClampNeg)))).1) ((f_R_fetch fM (k_a (cK ((8 : Int32).toNatClampNeg)))).2.1) ((f_R_fetch fM (k_a (cK ((8 : Int32).toNatClampNeg)))).2.2.1) ((f_R_fetch fM (k_a (cK ((8 : Int32).toNatClampNeg)))).2.2.2.1) ((f_R_fetch fM (k_a (cK ((8 : Int32).toNatClampNeg)))).2.2.2.2.1) cK) ≤ (0 : Int32) then false else true) = true then (if (k_v ((f_R_copy cK (8 : Int32) (10 : Int32)) ((9 : Int32).toNatClampNeg))) = true then ((f_R_exception ((f_R_fetch fM (k_a (cK ((8 : Int32).toNatClampNeg)))).1) ((f_R_fetch fM (k_a (cK ((8 : Int32).toNatClampNeg)))).2.1) ((f_R_fetch fM (k_a (cK ((8 : Int32).toNatClampNeg)))).2.2.1) ((f_R_fetch fM (k_a (cK ((8 : Int32).toNatClampNeg)))).2.2.2.1) ((f_R_fetch fM (k_a (cK ((8 : Int32).toNatClampNeg)))).2.2.2.2.1) cK), st, (f_R_fetch fM (k_a (cK ((8 : Int32).toNatClampNeg)))).1, (f_R_fetch fM (k_a (cK ((8 : Int32).toNatClampNeg)))).2.1, (f_R_fetch fM (k_a (cK ((8 : Int32).toNatClampNeg)))).2.2.1, (f_R_fetch fM (k_a (cK ((8 : Int32).toNatClampNeg)))).2.2.2.1, (f_R_fetch fM (k_a (cK ((8 : Int32).toNatClampNeg)))).2.2.2.2.1, (f_R_fetch fM (k_a (cK ((8 : Int32).toNatClampNeg)))).2.2.2.2.2, if (f_R_exception ((f_R_fetch fM (k_a (cK ((8 : Int32).toNatClampNeg)))).1) ((f_R_fetch fM (k_a (cK ((8 : Int32).toNatClampNeg)))).2.1) ((f_R_fetch fM (k_a (cK ((8 : Int32).toNatClampNeg)))).2.2.1) ((f_R_fetch fM (k_a (cK ((8 : Int32).toNatClampNeg)))).2.2.2.1) ((f_R_fetch fM (k_a (cK ((8 : Int32).toNatClampNeg)))).2.2.2.2.1) cK) ≤ (0 : Int32) then false else true, fM, gT, (f_R_copy (f_R_copy cK (8 : Int32) (10 : Int32)) (9 : Int32) (8 : Int32)))
      else ((f_R_exception ((f_R_fetch fM (k_a (cK ((8 : Int32).toNatClampNeg)))).1) ((f_R_fetch fM (k_a (cK ((8 : Int32).toNatClampNeg)))).2.1) ((f_R_fetch fM (k_a (cK ((8 : Int32).toNatClampNeg)))).2.2.1) ((f_R_fetch fM (k_a (cK ((8 : Int32).toNatClampNeg)))).2.2.2.1) ((f_R_fetch fM (k_a (cK ((8 : Int32).toNatClampNeg)))).2.2.2.2.1) cK), (2 : Int32), (f_R_fetch fM (k_a (cK ((8 : Int32).toNatClampNeg)))).1, (f_R_fetch fM (k_a (cK ((8 : Int32).toNatClampNeg)))).2.1, (f_R_fetch fM (k_a (cK ((8 : Int32).toNatClampNeg)))).2.2.1, (f_R_fetch fM (k_a (cK ((8 : Int32).toNatClampNeg)))).2.2.2.1, (f_R_fetch fM (k_a (cK ((8 : Int32).toNatClampNeg)))).2.2.2.2.1, (f_R_fetch fM (k_a (cK ((8 : Int32).toNatClampNeg)))).2.2.2.2.2, if (f_R_exception ((f_R_fetch fM (k_a (cK ((8 : Int32).toNatClampNeg)))).1) ((f_R_fetch fM (k_a (cK ((8 : Int32).toNatClampNeg)))).2.1) ((f_R_fetch fM (k_a (cK ((8 : Int32).toNatClampNeg)))).2.2.1) ((f_R_fetch fM (k_a (cK ((8 : Int32).toNatClampNeg)))).2.2.2.1) ((f_R_fetch fM (k_a (cK ((8 : Int32).toNatClampNeg)))).2.2.2.2.1) cK) ≤ (0 : Int32) then false else true, fM, gT, (f_R_copy cK (8 : Int32) (10 : Int32))))
    else if ((f_R_fetch fM (k_a (cK ((8 : Int32).toNatClampNeg)))).1) = (0 : Int32) then (ca, (1 : Int32), (f_R_fetch fM (k_a (cK ((8 : Int32).toNatClampNeg)))).1, (f_R_fetch fM (k_a (cK ((8 : Int32).toNatClampNeg)))).2.1, (f_R_fetch fM (k_a (cK ((8 : Int32).toNatClampNeg)))).2.2.1, (f_R_fetch fM (k_a (cK ((8 : Int32).toNatClampNeg)))).2.2.2.1, (f_R_fetch fM (k_a (cK ((8 : Int32).toNatClampNeg)))).2.2.2.2.1, (f_R_fetch fM (k_a (cK ((8 : Int32).toNatClampNeg)))).2.2.2.2.2, if (f_R_exception ((f_R_fetch fM (k_a (cK ((8 : Int32).toNatClampNeg)))).1) ((f_R_fetch fM (k_a (cK ((8 : Int32).toNatClampNeg)))).2.1) ((f_R_fetch fM (k_a (cK ((8 : Int32).toNatClampNeg)))).2.2.1) ((f_R_fetch fM (k_a (cK ((8 : Int32).toNatClampNeg)))).2.2.2.1) ((f_R_fetch fM (k_a (cK ((8 : Int32).toNatClampNeg)))).2.2.2.2.1) cK) ≤ (0 : Int32) then false else true, fM, gT, cK)
    else if ((f_R_fetch fM (k_a (cK ((8 : Int32).toNatClampNeg)))).1) = (16 : Int32) then (ca, st, (f_R_fetch fM (k_a (cK ((8 : Int32).toNatClampNeg)))).1, (f_R_fetch fM (k_a (cK ((8 : Int32).toNatClampNeg)))).2.1, (f_R_fetch fM (k_a (cK ((8 : Int32).toNatClampNeg)))).2.2.1, (f_R_fetch fM (k_a (cK ((8 : Int32).toNatClampNeg)))).2.2.2.1, (f_R_fetch fM (k_a (cK ((8 : Int32).toNatClampNeg)))).2.2.2.2.1, (f_R_fetch fM (k_a (cK ((8 : Int32).toNatClampNeg)))).2.2.2.2.2, if (f_R_exception ((f_R_fetch fM (k_a (cK ((8 : Int32).toNatClampNeg)))).1) ((f_R_fetch fM (k_a (cK ((8 : Int32).toNatClampNeg)))).2.1) ((f_R_fetch fM (k_a (cK ((8 : Int32).toNatClampNeg)))).2.2.1) ((f_R_fetch fM (k_a (cK ((8 : Int32).toNatClampNeg)))).2.2.2.1) ((f_R_fetch fM (k_a (cK ((8 : Int32).toNatClampNeg)))).2.2.2.2.1) cK) ≤ (0 : Int32) then false else true, fM, gT, (f_R_jump ((f_R_fetch fM (k_a (cK ((8 : Int32).toNatClampNeg)))).2.1) ((f_R_fetch fM (k_a (cK ((8 : Int32).toNatClampNeg)))).2.2.1) cK))
    else (ca, st, (f_R_fetch fM (k_a (cK ((8 : Int32).toNatClampNeg)))).1, (f_R_fetch fM (k_a (cK ((8 : Int32).toNatClampNeg)))).2.1, (f_R_fetch fM (k_a (cK ((8 : Int32).toNatClampNeg)))).2.2.1, (f_R_fetch fM (k_a (cK ((8 : Int32).toNatClampNeg)))).2.2.2.1, (f_R_fetch fM (k_a (cK ((8 : Int32).toNatClampNeg)))).2.2.2.2.1, (f_R_fetch fM (k_a (cK ((8 : Int32).toNatClampNeg)))).2.2.2.2.2, if (f_R_exception ((f_R_fetch fM (k_a (cK ((8 : Int32).toNatClampNeg)))).1) ((f_R_fetch fM (k_a (cK ((8 : Int32).toNatClampNeg)))).2.1) ((f_R_fetch fM (k_a (cK ((8 : Int32).toNatClampNeg)))).2.2.1) ((f_R_fetch fM (k_a (cK ((8 : Int32).toNatClampNeg)))).2.2.2.1) ((f_R_fetch fM (k_a (cK ((8 : Int32).toNatClampNeg)))).2.2.2.2.1) cK) ≤ (0 : Int32) then false else true, (f_R_doIt ((f_R_fetch fM (k_a (cK ((8 : Int32).toNatClampNeg)))).1) ((f_R_fetch fM (k_a (cK ((8 : Int32).toNatClampNeg)))).2.1) ((f_R_fetch fM (k_a (cK ((8 : Int32).toNatClampNeg)))).2.2.1) ((f_R_fetch fM (k_a (cK ((8 : Int32).toNatClampNeg)))).2.2.2.1) ((f_R_fetch fM (k_a (cK ((8 : Int32).toNatClampNeg)))).2.2.2.2.1) ((f_R_fetch fM (k_a (cK ((8 : Int32).toNatClampNeg)))).2.2.2.2.2) fM gT cK).1, (f_R_doIt ((f_R_fetch fM (k_a (cK ((8 : Int32).toNatClampNeg)))).1) ((f_R_fetch fM (k_a (cK ((8 : Int32).toNatClampNeg)))).2.1) ((f_R_fetch fM (k_a (cK ((8 : Int32).toNatClampNeg)))).2.2.1) ((f_R_fetch fM (k_a (cK ((8 : Int32).toNatClampNeg)))).2.2.2.1) ((f_R_fetch fM (k_a (cK ((8 : Int32).toNatClampNeg)))).2.2.2.2.1) ((f_R_fetch fM (k_a (cK ((8 : Int32).toNatClampNeg)))).2.2.2.2.2) fM gT cK).2.1, (f_R_doIt ((f_R_fetch fM (k_a (cK ((8 : Int32).toNatClampNeg)))).1) ((f_R_fetch fM (k_a (cK ((8 : Int32).toNatClampNeg)))).2.1) ((f_R_fetch fM (k_a (cK ((8 : Int32).toNatClampNeg)))).2.2.1) ((f_R_fetch fM (k_a (cK ((8 : Int32).toNatClampNeg)))).2.2.2.1) ((f_R_fetch fM (k_a (cK ((8 : Int32).toNatClampNeg)))).2.2.2.2.1) ((f_R_fetch fM (k_a (cK ((8 : Int32).toNatClampNeg)))).2.2.2.2.2) fM gT cK).2.2))
  else if (if (f_R_allow cK (8 : Int32) ((k_a (cK ((8 : Int32).toNatClampNeg))).toInt64) (4 : Int32) (4 : Int32)) ≤ (0 : Int32) then false else true) = true then (if (k_v ((f_R_copy cK (8 : Int32) (10 : Int32)) ((9 : Int32).toNatClampNeg))) = true then ((f_R_allow cK (8 : Int32) ((k_a (cK ((8 : Int32).toNatClampNeg))).toInt64) (4 : Int32) (4 : Int32)), st, co, ra, rb, rc, im, hf, if (f_R_allow cK (8 : Int32) ((k_a (cK ((8 : Int32).toNatClampNeg))).toInt64) (4 : Int32) (4 : Int32)) ≤ (0 : Int32) then false else true, fM, gT, (f_R_copy (f_R_copy cK (8 : Int32) (10 : Int32)) (9 : Int32) (8 : Int32)))
    else ((f_R_allow cK (8 : Int32) ((k_a (cK ((8 : Int32).toNatClampNeg))).toInt64) (4 : Int32) (4 : Int32)), (2 : Int32), co, ra, rb, rc, im, hf, if (f_R_allow cK (8 : Int32) ((k_a (cK ((8 : Int32).toNatClampNeg))).toInt64) (4 : Int32) (4 : Int32)) ≤ (0 : Int32) then false else true, fM, gT, (f_R_copy cK (8 : Int32) (10 : Int32))))
  else (ca, st, co, ra, rb, rc, im, hf, if (f_R_allow cK (8 : Int32) ((k_a (cK ((8 : Int32).toNatClampNeg))).toInt64) (4 : Int32) (4 : Int32)) ≤ (0 : Int32) then false else true, fM, gT, cK)
set_option maxHeartbeats 4000000 in
set_option maxRecDepth 100000 in
theorem c_R_step (l : Launch) (D : va_G) (q : Nat → ClassId) (xa : Nat → Nat) (th : Int32) (ca : Int32) (st : Int32) (co : Int32) (ra : Int32) (rb : Int32) (rc : Int32) (im : Int32) (hf : Int32) (rz : Bool) (fM : Nat → Int32) (gT : Nat → Bool) (cK : Nat → Cp) (A : Nat → Prop) (hD : va_D A (rW q xa th ca st co ra rb rc im hf rz fM gT cK)) (hg : ∀ i, i < 11 → Rg (cK i)) (hm : ∀ k, k < 512 → 0 ≤ (fM k).toInt ∧ (fM k).toInt ≤ 255) : WMv l y_R_step b_R_step 2 none ({ frames := 4, cells := 0, slots := 0, locals := 92 }) [.ref (xa 0)] D (tyR q) (rW q xa th ca st co ra rb rc im hf rz fM gT cK) (rW q xa th ((f_R_step ca st co ra rb rc im hf fM gT cK).1) ((f_R_step ca st co ra rb rc im hf fM gT cK).2.1) ((f_R_step ca st co ra rb rc im hf fM gT cK).2.2.1) ((f_R_step ca st co ra rb rc im hf fM gT cK).2.2.2.1) ((f_R_step ca st co ra rb rc im hf fM gT cK).2.2.2.2.1) ((f_R_step ca st co ra rb rc im hf fM gT cK).2.2.2.2.2.1) ((f_R_step ca st co ra rb rc im hf fM gT cK).2.2.2.2.2.2.1) ((f_R_step ca st co ra rb rc im hf fM gT cK).2.2.2.2.2.2.2.1) ((f_R_step ca st co ra rb rc im hf fM gT cK).2.2.2.2.2.2.2.2.1) ((f_R_step ca st co ra rb rc im hf fM gT cK).2.2.2.2.2.2.2.2.2.1) ((f_R_step ca st co ra rb rc im hf fM gT cK).2.2.2.2.2.2.2.2.2.2.1) ((f_R_step ca st co ra rb rc im hf fM gT cK).2.2.2.2.2.2.2.2.2.2.2)) A := by
  refine ofV (by decide) (Nat.le_of_ble_eq_true rfl) ?_
  intro p e s m below meth c ls S hr hlocks hK hN hP hl
  have hx := S.1
  have hb := S.2.1
  have hS : va_S A s.heap s.heap [] := va_S.rf
  have hl : lv_has ls 2 [(0, .ref (xa 0))] := hl
  refine lv_aload_n hx hb d_R_step_0 rfl (lv_at hl 0 rfl) ?_
  refine lv_bipush (v := (8 : Int32)) hx hb d_R_step_1 (by decide) ?_
  refine lv_aload_n hx hb d_R_step_3 rfl (lv_at hl 0 rfl) ?_
  refine r_get S hK hP 6 (by decide) fl_R_26 rfl d_R_step_4 ?_
  refine lv_bipush (v := (8 : Int32)) hx hb d_R_step_7 (by decide) ?_
  refine r_ald_a S hK hP (in_k rfl) d_R_step_9 ?_
  refine lv_i2l (v := (k_a (cK ((8 : Int32).toNatClampNeg))).toInt64) hx hb d_R_step_10 rfl ?_
  refine lv_iconst (v := (4 : Int32)) hx hb d_R_step_11 (by decide) ?_
  refine lv_iconst (v := (4 : Int32)) hx hb d_R_step_12 (by decide) ?_
  refine c_pV [] S (c_R_allow l _ _ _ _ _ _ _ _ _ _ _ _ _ _ _ _ (8 : Int32) ((k_a (cK ((8 : Int32).toNatClampNeg))).toInt64) (4 : Int32) (4 : Int32) (by first | assumption | exact in_k rfl | decide) (by first | assumption | exact in_k rfl | decide)) mf_R_allow ml_R_89 hK hN hP 0 3 rfl rfl ⟨rfl, rfl, Nat.le_of_ble_eq_true rfl, Nat.le_of_ble_eq_true rfl⟩ rfl hl.1 rfl (Nat.le_of_ble_eq_true rfl) d_R_step_13 ⟨Nat.zero_le _, Nat.zero_le _⟩ ?_
  refine lv_istore_n (lv' := [(1, .int _), (0, .ref _)]) hx hb d_R_step_16 rfl hl (by decide) rfl (fun ls hl => ?_)
  refine lv_iload_n hx hb d_R_step_17 rfl (lv_at hl 0 rfl) ?_
  refine lv_if_ne (tgt := 37) hx hb d_R_step_18 rfl (fun h_18 => ?_) (fun h_18 => ?_)
  · -- 18: taken
    refine lv_aload_n hx hb d_R_step_37 rfl (lv_at hl 1 rfl) ?_
    refine lv_iload_n hx hb d_R_step_38 rfl (lv_at hl 0 rfl) ?_
    refine jn 47 ls [.ref (xa 0)] (b2i (if (f_R_allow cK (8 : Int32) ((k_a (cK ((8 : Int32).toNatClampNeg))).toInt64) (4 : Int32) (4 : Int32)) ≤ (0 : Int32) then false else true)) ?_ (fun k_47 => ?_)
    · -- from 47 on
      refine r_put_rz (z := if (f_R_allow cK (8 : Int32) ((k_a (cK ((8 : Int32).toNatClampNeg))).toInt64) (4 : Int32) (4 : Int32)) ≤ (0 : Int32) then false else true) S hK hP (rW_D hD) hS fl_R_161 d_R_step_47 (fun H locs hP hS => ?_)
      refine lv_aload_n hx hb d_R_step_50 rfl (lv_at hl 1 rfl) ?_
      refine r_get S hK hP 17 (by decide) fl_R_161 rfl d_R_step_51 ?_
      refine zb_eq (tgt := 99) hx hb d_R_step_54 rfl (fun h_54 => ?_) (fun h_54 => ?_)
      · -- 54: taken
        exact absurd h_54 (al_ct h_18)
      · -- 54: not taken
        refine lv_aload_n hx hb d_R_step_57 rfl (lv_at hl 1 rfl) ?_
        refine lv_iload_n hx hb d_R_step_58 rfl (lv_at hl 0 rfl) ?_
        refine r_put_ca S hK hP (rW_D hD) hS fl_R_165 d_R_step_59 (fun H locs hP hS => ?_)
        refine lv_aload_n hx hb d_R_step_62 rfl (lv_at hl 1 rfl) ?_
        refine lv_bipush (v := (8 : Int32)) hx hb d_R_step_63 (by decide) ?_
        refine lv_bipush (v := (10 : Int32)) hx hb d_R_step_65 (by decide) ?_
        refine c_vV [] S (c_R_copy l _ _ _ _ _ _ _ _ _ _ _ _ _ _ _ _ A (rW_D hD) (8 : Int32) (10 : Int32) (by first | assumption | exact in_k rfl | decide) (by first | assumption | exact in_k rfl | decide)) mf_R_copy ml_R_134 hK hN hP hS 0 3 rfl rfl ⟨rfl, rfl, Nat.le_of_ble_eq_true rfl, Nat.le_of_ble_eq_true rfl⟩ rfl hl.1 rfl (Nat.le_of_ble_eq_true rfl) d_R_step_67 ⟨Nat.zero_le _, Nat.zero_le _⟩ (fun H locs hP hS => ?_)
        refine lv_aload_n hx hb d_R_step_70 rfl (lv_at hl 1 rfl) ?_
        refine r_get S hK hP 3 (by decide) fl_R_17 rfl d_R_step_71 ?_
        refine lv_bipush (v := (9 : Int32)) hx hb d_R_step_74 (by decide) ?_
        refine r_ald_v S hK hP (in_k rfl) d_R_step_76 ?_
        refine zb_eq (tgt := 91) hx hb d_R_step_77 rfl (fun h_77 => ?_) (fun h_77 => ?_)
        · -- 77: taken
          refine lv_aload_n hx hb d_R_step_91 rfl (lv_at hl 1 rfl) ?_
          refine lv_iconst (v := (2 : Int32)) hx hb d_R_step_92 (by decide) ?_
          refine r_put_st S hK hP (rW_D hD) hS fl_R_168 d_R_step_93 (fun H locs hP hS => ?_)
          refine lv_goto (tgt := 134) hx hb d_R_step_96 rfl ?_
          have hF : f_R_step ca st co ra rb rc im hf fM gT cK = ((f_R_allow cK (8 : Int32) ((k_a (cK ((8 : Int32).toNatClampNeg))).toInt64) (4 : Int32) (4 : Int32)), (2 : Int32), co, ra, rb, rc, im, hf, if (f_R_allow cK (8 : Int32) ((k_a (cK ((8 : Int32).toNatClampNeg))).toInt64) (4 : Int32) (4 : Int32)) ≤ (0 : Int32) then false else true, fM, gT, (f_R_copy cK (8 : Int32) (10 : Int32))) := (if_neg h_18).trans ((if_pos h_54).trans ((if_neg (bn_f h_77)).trans (rfl)))
          exact e_wv S hr hlocks hP hS (congrArg (fun z => rW q xa th z.1 z.2.1 z.2.2.1 z.2.2.2.1 z.2.2.2.2.1 z.2.2.2.2.2.1 z.2.2.2.2.2.2.1 z.2.2.2.2.2.2.2.1 z.2.2.2.2.2.2.2.2.1 z.2.2.2.2.2.2.2.2.2.1 z.2.2.2.2.2.2.2.2.2.2.1 z.2.2.2.2.2.2.2.2.2.2.2) hF.symm) d_R_step_134
        · -- 77: not taken
          refine lv_aload_n hx hb d_R_step_80 rfl (lv_at hl 1 rfl) ?_
          refine lv_bipush (v := (9 : Int32)) hx hb d_R_step_81 (by decide) ?_
          refine lv_bipush (v := (8 : Int32)) hx hb d_R_step_83 (by decide) ?_
          refine c_vV [] S (c_R_copy l _ _ _ _ _ _ _ _ _ _ _ _ _ _ _ _ A (rW_D hD) (9 : Int32) (8 : Int32) (by first | assumption | exact in_k rfl | decide) (by first | assumption | exact in_k rfl | decide)) mf_R_copy ml_R_134 hK hN hP hS 0 3 rfl rfl ⟨rfl, rfl, Nat.le_of_ble_eq_true rfl, Nat.le_of_ble_eq_true rfl⟩ rfl hl.1 rfl (Nat.le_of_ble_eq_true rfl) d_R_step_85 ⟨Nat.zero_le _, Nat.zero_le _⟩ (fun H locs hP hS => ?_)
          refine lv_goto (tgt := 134) hx hb d_R_step_88 rfl ?_
          have hF : f_R_step ca st co ra rb rc im hf fM gT cK = ((f_R_allow cK (8 : Int32) ((k_a (cK ((8 : Int32).toNatClampNeg))).toInt64) (4 : Int32) (4 : Int32)), st, co, ra, rb, rc, im, hf, if (f_R_allow cK (8 : Int32) ((k_a (cK ((8 : Int32).toNatClampNeg))).toInt64) (4 : Int32) (4 : Int32)) ≤ (0 : Int32) then false else true, fM, gT, (f_R_copy (f_R_copy cK (8 : Int32) (10 : Int32)) (9 : Int32) (8 : Int32))) := (if_neg h_18).trans ((if_pos h_54).trans ((if_pos h_77).trans (rfl)))
          exact e_wv S hr hlocks hP hS (congrArg (fun z => rW q xa th z.1 z.2.1 z.2.2.1 z.2.2.2.1 z.2.2.2.2.1 z.2.2.2.2.2.1 z.2.2.2.2.2.2.1 z.2.2.2.2.2.2.2.1 z.2.2.2.2.2.2.2.2.1 z.2.2.2.2.2.2.2.2.2.1 z.2.2.2.2.2.2.2.2.2.2.1 z.2.2.2.2.2.2.2.2.2.2.2) hF.symm) d_R_step_134
    · -- to 47
      refine lv_if_le (tgt := 46) hx hb d_R_step_39 rfl (fun h_39 => ?_) (fun h_39 => ?_)
      · -- 39: taken
        refine lv_iconst (v := (0 : Int32)) hx hb d_R_step_46 (by decide) ?_
        exact k_47 _ (congrArg b2i ((if_pos h_39).trans (rfl) : (if (f_R_allow cK (8 : Int32) ((k_a (cK ((8 : Int32).toNatClampNeg))).toInt64) (4 : Int32) (4 : Int32)) ≤ (0 : Int32) then false else true) = false).symm)
      · -- 39: not taken
        refine lv_iconst (v := (1 : Int32)) hx hb d_R_step_42 (by decide) ?_
        refine lv_goto (tgt := 47) hx hb d_R_step_43 rfl ?_
        exact k_47 _ (congrArg b2i ((if_neg h_39).trans (rfl) : (if (f_R_allow cK (8 : Int32) ((k_a (cK ((8 : Int32).toNatClampNeg))).toInt64) (4 : Int32) (4 : Int32)) ≤ (0 : Int32) then false else true) = true).symm)
  · -- 18: not taken
    have hA : Ar (k_a (cK ((8 : Int32).toNatClampNeg))) 4 := al_pc h_18 (hg _ (by decide))
    refine lv_aload_n hx hb d_R_step_21 rfl (lv_at hl 1 rfl) ?_
    refine lv_aload_n hx hb d_R_step_22 rfl (lv_at hl 1 rfl) ?_
    refine r_get S hK hP 6 (by decide) fl_R_26 rfl d_R_step_23 ?_
    refine lv_bipush (v := (8 : Int32)) hx hb d_R_step_26 (by decide) ?_
    refine r_ald_a S hK hP (in_k rfl) d_R_step_28 ?_
    refine c_vV [] S (c_R_fetch l _ _ _ _ _ _ _ _ _ _ _ _ _ _ _ _ A (rW_D hD) (k_a (cK ((8 : Int32).toNatClampNeg))) (by first | assumption | exact in_k rfl | decide)) mf_R_fetch ml_R_155 hK hN hP hS 0 3 rfl rfl ⟨rfl, rfl, Nat.le_of_ble_eq_true rfl, Nat.le_of_ble_eq_true rfl⟩ rfl hl.1 rfl (Nat.le_of_ble_eq_true rfl) d_R_step_29 ⟨Nat.zero_le _, Nat.zero_le _⟩ (fun H locs hP hS => ?_)
    have hra := ft_a hm hA
    have hrb := ft_b hm hA
    have hrc := ft_c hm hA
    refine lv_aload_n hx hb d_R_step_32 rfl (lv_at hl 1 rfl) ?_
    refine c_pV [] S (c_R_exception l _ _ _ _ _ _ _ _ _ _ _ _ _ _ _ _ (by first | assumption | exact in_k rfl | decide) (by first | assumption | exact in_k rfl | decide) (by first | assumption | exact in_k rfl | decide)) mf_R_exception ml_R_158 hK hN hP 0 3 rfl rfl ⟨rfl, rfl, Nat.le_of_ble_eq_true rfl, Nat.le_of_ble_eq_true rfl⟩ rfl hl.1 rfl (Nat.le_of_ble_eq_true rfl) d_R_step_33 ⟨Nat.zero_le _, Nat.zero_le _⟩ ?_
    refine lv_istore_n (lv' := [(1, .int _), (0, .ref _)]) hx hb d_R_step_36 rfl hl (by decide) rfl (fun ls hl => ?_)
    refine lv_aload_n hx hb d_R_step_37 rfl (lv_at hl 1 rfl) ?_
    refine lv_iload_n hx hb d_R_step_38 rfl (lv_at hl 0 rfl) ?_
    refine jn 47 ls [.ref (xa 0)] (b2i (if (f_R_exception ((f_R_fetch fM (k_a (cK ((8 : Int32).toNatClampNeg)))).1) ((f_R_fetch fM (k_a (cK ((8 : Int32).toNatClampNeg)))).2.1) ((f_R_fetch fM (k_a (cK ((8 : Int32).toNatClampNeg)))).2.2.1) ((f_R_fetch fM (k_a (cK ((8 : Int32).toNatClampNeg)))).2.2.2.1) ((f_R_fetch fM (k_a (cK ((8 : Int32).toNatClampNeg)))).2.2.2.2.1) cK) ≤ (0 : Int32) then false else true)) ?_ (fun k_47 => ?_)
    · -- from 47 on
      refine r_put_rz (z := if (f_R_exception ((f_R_fetch fM (k_a (cK ((8 : Int32).toNatClampNeg)))).1) ((f_R_fetch fM (k_a (cK ((8 : Int32).toNatClampNeg)))).2.1) ((f_R_fetch fM (k_a (cK ((8 : Int32).toNatClampNeg)))).2.2.1) ((f_R_fetch fM (k_a (cK ((8 : Int32).toNatClampNeg)))).2.2.2.1) ((f_R_fetch fM (k_a (cK ((8 : Int32).toNatClampNeg)))).2.2.2.2.1) cK) ≤ (0 : Int32) then false else true) S hK hP (rW_D hD) hS fl_R_161 d_R_step_47 (fun H locs hP hS => ?_)
      refine lv_aload_n hx hb d_R_step_50 rfl (lv_at hl 1 rfl) ?_
      refine r_get S hK hP 17 (by decide) fl_R_161 rfl d_R_step_51 ?_
      refine zb_eq (tgt := 99) hx hb d_R_step_54 rfl (fun h_54 => ?_) (fun h_54 => ?_)
      · -- 54: taken
        refine lv_aload_n hx hb d_R_step_99 rfl (lv_at hl 1 rfl) ?_
        refine r_get S hK hP 11 (by decide) fl_R_72 rfl d_R_step_100 ?_
        refine lv_if_ne (tgt := 114) hx hb d_R_step_103 rfl (fun h_103 => ?_) (fun h_103 => ?_)
        · -- 103: taken
          refine lv_aload_n hx hb d_R_step_114 rfl (lv_at hl 1 rfl) ?_
          refine r_get S hK hP 11 (by decide) fl_R_72 rfl d_R_step_115 ?_
          refine lv_bipush (v := (16 : Int32)) hx hb d_R_step_118 (by decide) ?_
          refine lv_icmp_ne (tgt := 130) hx hb d_R_step_120 rfl (fun h_120 => ?_) (fun h_120 => ?_)
          · -- 120: taken
            refine lv_aload_n hx hb d_R_step_130 rfl (lv_at hl 1 rfl) ?_
            refine c_vV [] S (c_R_doIt l _ _ _ _ _ _ _ _ _ _ _ _ _ _ _ _ A (rW_D hD) (by first | assumption | exact in_k rfl | decide) (by first | assumption | exact in_k rfl | decide) (by first | assumption | exact in_k rfl | decide) (fun ha hb => ex_as h_54 ha hb (hg _ (Nat.lt_of_lt_of_le (in_lt (ft_b8 hm hA)) (by decide))))) mf_R_doIt ml_R_174 hK hN hP hS 0 3 rfl rfl ⟨rfl, rfl, Nat.le_of_ble_eq_true rfl, Nat.le_of_ble_eq_true rfl⟩ rfl hl.1 rfl (Nat.le_of_ble_eq_true rfl) d_R_step_131 ⟨Nat.zero_le _, Nat.zero_le _⟩ (fun H locs hP hS => ?_)
            have hF : f_R_step ca st co ra rb rc im hf fM gT cK = (ca, st, (f_R_fetch fM (k_a (cK ((8 : Int32).toNatClampNeg)))).1, (f_R_fetch fM (k_a (cK ((8 : Int32).toNatClampNeg)))).2.1, (f_R_fetch fM (k_a (cK ((8 : Int32).toNatClampNeg)))).2.2.1, (f_R_fetch fM (k_a (cK ((8 : Int32).toNatClampNeg)))).2.2.2.1, (f_R_fetch fM (k_a (cK ((8 : Int32).toNatClampNeg)))).2.2.2.2.1, (f_R_fetch fM (k_a (cK ((8 : Int32).toNatClampNeg)))).2.2.2.2.2, if (f_R_exception ((f_R_fetch fM (k_a (cK ((8 : Int32).toNatClampNeg)))).1) ((f_R_fetch fM (k_a (cK ((8 : Int32).toNatClampNeg)))).2.1) ((f_R_fetch fM (k_a (cK ((8 : Int32).toNatClampNeg)))).2.2.1) ((f_R_fetch fM (k_a (cK ((8 : Int32).toNatClampNeg)))).2.2.2.1) ((f_R_fetch fM (k_a (cK ((8 : Int32).toNatClampNeg)))).2.2.2.2.1) cK) ≤ (0 : Int32) then false else true, (f_R_doIt ((f_R_fetch fM (k_a (cK ((8 : Int32).toNatClampNeg)))).1) ((f_R_fetch fM (k_a (cK ((8 : Int32).toNatClampNeg)))).2.1) ((f_R_fetch fM (k_a (cK ((8 : Int32).toNatClampNeg)))).2.2.1) ((f_R_fetch fM (k_a (cK ((8 : Int32).toNatClampNeg)))).2.2.2.1) ((f_R_fetch fM (k_a (cK ((8 : Int32).toNatClampNeg)))).2.2.2.2.1) ((f_R_fetch fM (k_a (cK ((8 : Int32).toNatClampNeg)))).2.2.2.2.2) fM gT cK).1, (f_R_doIt ((f_R_fetch fM (k_a (cK ((8 : Int32).toNatClampNeg)))).1) ((f_R_fetch fM (k_a (cK ((8 : Int32).toNatClampNeg)))).2.1) ((f_R_fetch fM (k_a (cK ((8 : Int32).toNatClampNeg)))).2.2.1) ((f_R_fetch fM (k_a (cK ((8 : Int32).toNatClampNeg)))).2.2.2.1) ((f_R_fetch fM (k_a (cK ((8 : Int32).toNatClampNeg)))).2.2.2.2.1) ((f_R_fetch fM (k_a (cK ((8 : Int32).toNatClampNeg)))).2.2.2.2.2) fM gT cK).2.1, (f_R_doIt ((f_R_fetch fM (k_a (cK ((8 : Int32).toNatClampNeg)))).1) ((f_R_fetch fM (k_a (cK ((8 : Int32).toNatClampNeg)))).2.1) ((f_R_fetch fM (k_a (cK ((8 : Int32).toNatClampNeg)))).2.2.1) ((f_R_fetch fM (k_a (cK ((8 : Int32).toNatClampNeg)))).2.2.2.1) ((f_R_fetch fM (k_a (cK ((8 : Int32).toNatClampNeg)))).2.2.2.2.1) ((f_R_fetch fM (k_a (cK ((8 : Int32).toNatClampNeg)))).2.2.2.2.2) fM gT cK).2.2) := (if_pos h_18).trans ((if_neg (bn_f h_54)).trans ((if_neg h_103).trans ((if_neg h_120).trans (rfl))))
            exact e_wv S hr hlocks hP hS (congrArg (fun z => rW q xa th z.1 z.2.1 z.2.2.1 z.2.2.2.1 z.2.2.2.2.1 z.2.2.2.2.2.1 z.2.2.2.2.2.2.1 z.2.2.2.2.2.2.2.1 z.2.2.2.2.2.2.2.2.1 z.2.2.2.2.2.2.2.2.2.1 z.2.2.2.2.2.2.2.2.2.2.1 z.2.2.2.2.2.2.2.2.2.2.2) hF.symm) d_R_step_134
          · -- 120: not taken
            refine lv_aload_n hx hb d_R_step_123 rfl (lv_at hl 1 rfl) ?_
            refine c_vV [] S (c_R_jump l _ _ _ _ _ _ _ _ _ _ _ _ _ _ _ _ A (rW_D hD) (by first | assumption | exact in_k rfl | decide) (by first | assumption | exact in_k rfl | decide)) mf_R_jump ml_R_171 hK hN hP hS 0 3 rfl rfl ⟨rfl, rfl, Nat.le_of_ble_eq_true rfl, Nat.le_of_ble_eq_true rfl⟩ rfl hl.1 rfl (Nat.le_of_ble_eq_true rfl) d_R_step_124 ⟨Nat.zero_le _, Nat.zero_le _⟩ (fun H locs hP hS => ?_)
            refine lv_goto (tgt := 134) hx hb d_R_step_127 rfl ?_
            have hF : f_R_step ca st co ra rb rc im hf fM gT cK = (ca, st, (f_R_fetch fM (k_a (cK ((8 : Int32).toNatClampNeg)))).1, (f_R_fetch fM (k_a (cK ((8 : Int32).toNatClampNeg)))).2.1, (f_R_fetch fM (k_a (cK ((8 : Int32).toNatClampNeg)))).2.2.1, (f_R_fetch fM (k_a (cK ((8 : Int32).toNatClampNeg)))).2.2.2.1, (f_R_fetch fM (k_a (cK ((8 : Int32).toNatClampNeg)))).2.2.2.2.1, (f_R_fetch fM (k_a (cK ((8 : Int32).toNatClampNeg)))).2.2.2.2.2, if (f_R_exception ((f_R_fetch fM (k_a (cK ((8 : Int32).toNatClampNeg)))).1) ((f_R_fetch fM (k_a (cK ((8 : Int32).toNatClampNeg)))).2.1) ((f_R_fetch fM (k_a (cK ((8 : Int32).toNatClampNeg)))).2.2.1) ((f_R_fetch fM (k_a (cK ((8 : Int32).toNatClampNeg)))).2.2.2.1) ((f_R_fetch fM (k_a (cK ((8 : Int32).toNatClampNeg)))).2.2.2.2.1) cK) ≤ (0 : Int32) then false else true, fM, gT, (f_R_jump ((f_R_fetch fM (k_a (cK ((8 : Int32).toNatClampNeg)))).2.1) ((f_R_fetch fM (k_a (cK ((8 : Int32).toNatClampNeg)))).2.2.1) cK)) := (if_pos h_18).trans ((if_neg (bn_f h_54)).trans ((if_neg h_103).trans ((if_pos h_120).trans (rfl))))
            exact e_wv S hr hlocks hP hS (congrArg (fun z => rW q xa th z.1 z.2.1 z.2.2.1 z.2.2.2.1 z.2.2.2.2.1 z.2.2.2.2.2.1 z.2.2.2.2.2.2.1 z.2.2.2.2.2.2.2.1 z.2.2.2.2.2.2.2.2.1 z.2.2.2.2.2.2.2.2.2.1 z.2.2.2.2.2.2.2.2.2.2.1 z.2.2.2.2.2.2.2.2.2.2.2) hF.symm) d_R_step_134
        · -- 103: not taken
          refine lv_aload_n hx hb d_R_step_106 rfl (lv_at hl 1 rfl) ?_
          refine lv_iconst (v := (1 : Int32)) hx hb d_R_step_107 (by decide) ?_
          refine r_put_st S hK hP (rW_D hD) hS fl_R_168 d_R_step_108 (fun H locs hP hS => ?_)
          refine lv_goto (tgt := 134) hx hb d_R_step_111 rfl ?_
          have hF : f_R_step ca st co ra rb rc im hf fM gT cK = (ca, (1 : Int32), (f_R_fetch fM (k_a (cK ((8 : Int32).toNatClampNeg)))).1, (f_R_fetch fM (k_a (cK ((8 : Int32).toNatClampNeg)))).2.1, (f_R_fetch fM (k_a (cK ((8 : Int32).toNatClampNeg)))).2.2.1, (f_R_fetch fM (k_a (cK ((8 : Int32).toNatClampNeg)))).2.2.2.1, (f_R_fetch fM (k_a (cK ((8 : Int32).toNatClampNeg)))).2.2.2.2.1, (f_R_fetch fM (k_a (cK ((8 : Int32).toNatClampNeg)))).2.2.2.2.2, if (f_R_exception ((f_R_fetch fM (k_a (cK ((8 : Int32).toNatClampNeg)))).1) ((f_R_fetch fM (k_a (cK ((8 : Int32).toNatClampNeg)))).2.1) ((f_R_fetch fM (k_a (cK ((8 : Int32).toNatClampNeg)))).2.2.1) ((f_R_fetch fM (k_a (cK ((8 : Int32).toNatClampNeg)))).2.2.2.1) ((f_R_fetch fM (k_a (cK ((8 : Int32).toNatClampNeg)))).2.2.2.2.1) cK) ≤ (0 : Int32) then false else true, fM, gT, cK) := (if_pos h_18).trans ((if_neg (bn_f h_54)).trans ((if_pos h_103).trans (rfl)))
          exact e_wv S hr hlocks hP hS (congrArg (fun z => rW q xa th z.1 z.2.1 z.2.2.1 z.2.2.2.1 z.2.2.2.2.1 z.2.2.2.2.2.1 z.2.2.2.2.2.2.1 z.2.2.2.2.2.2.2.1 z.2.2.2.2.2.2.2.2.1 z.2.2.2.2.2.2.2.2.2.1 z.2.2.2.2.2.2.2.2.2.2.1 z.2.2.2.2.2.2.2.2.2.2.2) hF.symm) d_R_step_134
      · -- 54: not taken
        refine lv_aload_n hx hb d_R_step_57 rfl (lv_at hl 1 rfl) ?_
        refine lv_iload_n hx hb d_R_step_58 rfl (lv_at hl 0 rfl) ?_
        refine r_put_ca S hK hP (rW_D hD) hS fl_R_165 d_R_step_59 (fun H locs hP hS => ?_)
        refine lv_aload_n hx hb d_R_step_62 rfl (lv_at hl 1 rfl) ?_
        refine lv_bipush (v := (8 : Int32)) hx hb d_R_step_63 (by decide) ?_
        refine lv_bipush (v := (10 : Int32)) hx hb d_R_step_65 (by decide) ?_
        refine c_vV [] S (c_R_copy l _ _ _ _ _ _ _ _ _ _ _ _ _ _ _ _ A (rW_D hD) (8 : Int32) (10 : Int32) (by first | assumption | exact in_k rfl | decide) (by first | assumption | exact in_k rfl | decide)) mf_R_copy ml_R_134 hK hN hP hS 0 3 rfl rfl ⟨rfl, rfl, Nat.le_of_ble_eq_true rfl, Nat.le_of_ble_eq_true rfl⟩ rfl hl.1 rfl (Nat.le_of_ble_eq_true rfl) d_R_step_67 ⟨Nat.zero_le _, Nat.zero_le _⟩ (fun H locs hP hS => ?_)
        refine lv_aload_n hx hb d_R_step_70 rfl (lv_at hl 1 rfl) ?_
        refine r_get S hK hP 3 (by decide) fl_R_17 rfl d_R_step_71 ?_
        refine lv_bipush (v := (9 : Int32)) hx hb d_R_step_74 (by decide) ?_
        refine r_ald_v S hK hP (in_k rfl) d_R_step_76 ?_
        refine zb_eq (tgt := 91) hx hb d_R_step_77 rfl (fun h_77 => ?_) (fun h_77 => ?_)
        · -- 77: taken
          refine lv_aload_n hx hb d_R_step_91 rfl (lv_at hl 1 rfl) ?_
          refine lv_iconst (v := (2 : Int32)) hx hb d_R_step_92 (by decide) ?_
          refine r_put_st S hK hP (rW_D hD) hS fl_R_168 d_R_step_93 (fun H locs hP hS => ?_)
          refine lv_goto (tgt := 134) hx hb d_R_step_96 rfl ?_
          have hF : f_R_step ca st co ra rb rc im hf fM gT cK = ((f_R_exception ((f_R_fetch fM (k_a (cK ((8 : Int32).toNatClampNeg)))).1) ((f_R_fetch fM (k_a (cK ((8 : Int32).toNatClampNeg)))).2.1) ((f_R_fetch fM (k_a (cK ((8 : Int32).toNatClampNeg)))).2.2.1) ((f_R_fetch fM (k_a (cK ((8 : Int32).toNatClampNeg)))).2.2.2.1) ((f_R_fetch fM (k_a (cK ((8 : Int32).toNatClampNeg)))).2.2.2.2.1) cK), (2 : Int32), (f_R_fetch fM (k_a (cK ((8 : Int32).toNatClampNeg)))).1, (f_R_fetch fM (k_a (cK ((8 : Int32).toNatClampNeg)))).2.1, (f_R_fetch fM (k_a (cK ((8 : Int32).toNatClampNeg)))).2.2.1, (f_R_fetch fM (k_a (cK ((8 : Int32).toNatClampNeg)))).2.2.2.1, (f_R_fetch fM (k_a (cK ((8 : Int32).toNatClampNeg)))).2.2.2.2.1, (f_R_fetch fM (k_a (cK ((8 : Int32).toNatClampNeg)))).2.2.2.2.2, if (f_R_exception ((f_R_fetch fM (k_a (cK ((8 : Int32).toNatClampNeg)))).1) ((f_R_fetch fM (k_a (cK ((8 : Int32).toNatClampNeg)))).2.1) ((f_R_fetch fM (k_a (cK ((8 : Int32).toNatClampNeg)))).2.2.1) ((f_R_fetch fM (k_a (cK ((8 : Int32).toNatClampNeg)))).2.2.2.1) ((f_R_fetch fM (k_a (cK ((8 : Int32).toNatClampNeg)))).2.2.2.2.1) cK) ≤ (0 : Int32) then false else true, fM, gT, (f_R_copy cK (8 : Int32) (10 : Int32))) := (if_pos h_18).trans ((if_pos h_54).trans ((if_neg (bn_f h_77)).trans (rfl)))
          exact e_wv S hr hlocks hP hS (congrArg (fun z => rW q xa th z.1 z.2.1 z.2.2.1 z.2.2.2.1 z.2.2.2.2.1 z.2.2.2.2.2.1 z.2.2.2.2.2.2.1 z.2.2.2.2.2.2.2.1 z.2.2.2.2.2.2.2.2.1 z.2.2.2.2.2.2.2.2.2.1 z.2.2.2.2.2.2.2.2.2.2.1 z.2.2.2.2.2.2.2.2.2.2.2) hF.symm) d_R_step_134
        · -- 77: not taken
          refine lv_aload_n hx hb d_R_step_80 rfl (lv_at hl 1 rfl) ?_
          refine lv_bipush (v := (9 : Int32)) hx hb d_R_step_81 (by decide) ?_
          refine lv_bipush (v := (8 : Int32)) hx hb d_R_step_83 (by decide) ?_
          refine c_vV [] S (c_R_copy l _ _ _ _ _ _ _ _ _ _ _ _ _ _ _ _ A (rW_D hD) (9 : Int32) (8 : Int32) (by first | assumption | exact in_k rfl | decide) (by first | assumption | exact in_k rfl | decide)) mf_R_copy ml_R_134 hK hN hP hS 0 3 rfl rfl ⟨rfl, rfl, Nat.le_of_ble_eq_true rfl, Nat.le_of_ble_eq_true rfl⟩ rfl hl.1 rfl (Nat.le_of_ble_eq_true rfl) d_R_step_85 ⟨Nat.zero_le _, Nat.zero_le _⟩ (fun H locs hP hS => ?_)
          refine lv_goto (tgt := 134) hx hb d_R_step_88 rfl ?_
          have hF : f_R_step ca st co ra rb rc im hf fM gT cK = ((f_R_exception ((f_R_fetch fM (k_a (cK ((8 : Int32).toNatClampNeg)))).1) ((f_R_fetch fM (k_a (cK ((8 : Int32).toNatClampNeg)))).2.1) ((f_R_fetch fM (k_a (cK ((8 : Int32).toNatClampNeg)))).2.2.1) ((f_R_fetch fM (k_a (cK ((8 : Int32).toNatClampNeg)))).2.2.2.1) ((f_R_fetch fM (k_a (cK ((8 : Int32).toNatClampNeg)))).2.2.2.2.1) cK), st, (f_R_fetch fM (k_a (cK ((8 : Int32).toNatClampNeg)))).1, (f_R_fetch fM (k_a (cK ((8 : Int32).toNatClampNeg)))).2.1, (f_R_fetch fM (k_a (cK ((8 : Int32).toNatClampNeg)))).2.2.1, (f_R_fetch fM (k_a (cK ((8 : Int32).toNatClampNeg)))).2.2.2.1, (f_R_fetch fM (k_a (cK ((8 : Int32).toNatClampNeg)))).2.2.2.2.1, (f_R_fetch fM (k_a (cK ((8 : Int32).toNatClampNeg)))).2.2.2.2.2, if (f_R_exception ((f_R_fetch fM (k_a (cK ((8 : Int32).toNatClampNeg)))).1) ((f_R_fetch fM (k_a (cK ((8 : Int32).toNatClampNeg)))).2.1) ((f_R_fetch fM (k_a (cK ((8 : Int32).toNatClampNeg)))).2.2.1) ((f_R_fetch fM (k_a (cK ((8 : Int32).toNatClampNeg)))).2.2.2.1) ((f_R_fetch fM (k_a (cK ((8 : Int32).toNatClampNeg)))).2.2.2.2.1) cK) ≤ (0 : Int32) then false else true, fM, gT, (f_R_copy (f_R_copy cK (8 : Int32) (10 : Int32)) (9 : Int32) (8 : Int32))) := (if_pos h_18).trans ((if_pos h_54).trans ((if_pos h_77).trans (rfl)))
          exact e_wv S hr hlocks hP hS (congrArg (fun z => rW q xa th z.1 z.2.1 z.2.2.1 z.2.2.2.1 z.2.2.2.2.1 z.2.2.2.2.2.1 z.2.2.2.2.2.2.1 z.2.2.2.2.2.2.2.1 z.2.2.2.2.2.2.2.2.1 z.2.2.2.2.2.2.2.2.2.1 z.2.2.2.2.2.2.2.2.2.2.1 z.2.2.2.2.2.2.2.2.2.2.2) hF.symm) d_R_step_134
    · -- to 47
      refine lv_if_le (tgt := 46) hx hb d_R_step_39 rfl (fun h_39 => ?_) (fun h_39 => ?_)
      · -- 39: taken
        refine lv_iconst (v := (0 : Int32)) hx hb d_R_step_46 (by decide) ?_
        exact k_47 _ (congrArg b2i ((if_pos h_39).trans (rfl) : (if (f_R_exception ((f_R_fetch fM (k_a (cK ((8 : Int32).toNatClampNeg)))).1) ((f_R_fetch fM (k_a (cK ((8 : Int32).toNatClampNeg)))).2.1) ((f_R_fetch fM (k_a (cK ((8 : Int32).toNatClampNeg)))).2.2.1) ((f_R_fetch fM (k_a (cK ((8 : Int32).toNatClampNeg)))).2.2.2.1) ((f_R_fetch fM (k_a (cK ((8 : Int32).toNatClampNeg)))).2.2.2.2.1) cK) ≤ (0 : Int32) then false else true) = false).symm)
      · -- 39: not taken
        refine lv_iconst (v := (1 : Int32)) hx hb d_R_step_42 (by decide) ?_
        refine lv_goto (tgt := 47) hx hb d_R_step_43 rfl ?_
        exact k_47 _ (congrArg b2i ((if_neg h_39).trans (rfl) : (if (f_R_exception ((f_R_fetch fM (k_a (cK ((8 : Int32).toNatClampNeg)))).1) ((f_R_fetch fM (k_a (cK ((8 : Int32).toNatClampNeg)))).2.1) ((f_R_fetch fM (k_a (cK ((8 : Int32).toNatClampNeg)))).2.2.1) ((f_R_fetch fM (k_a (cK ((8 : Int32).toNatClampNeg)))).2.2.2.1) ((f_R_fetch fM (k_a (cK ((8 : Int32).toNatClampNeg)))).2.2.2.2.1) cK) ≤ (0 : Int32) then false else true) = true).symm)
def f_R_grant (st : Int32) (cK : Nat → Cp) (r0 : Int32) (nb : Int32) (nt : Int32) (na : Int32) (np : Int32) : Int32 × Int32 × (Nat → Cp) :=
  if (b2i (if (f_R_outside r0 (0 : Int32) (9 : Int32)) = true then true else (if nb < (0 : Int32) then true else (if nt < nb then true else (if (512 : Int32) < nt then true else (if (f_R_outside np (0 : Int32) (255 : Int32)) = true then true else false)))))) ≤ (0 : Int32) then (b2i (if (f_R_outside r0 (0 : Int32) (9 : Int32)) = true then true else (if nb < (0 : Int32) then true else (if nt < nb then true else (if (512 : Int32) < nt then true else (if (f_R_outside np (0 : Int32) (255 : Int32)) = true then true else false))))), (0 : Int32), (f_R_set cK r0 nb nt na np))
  else (b2i (if (f_R_outside r0 (0 : Int32) (9 : Int32)) = true then true else (if nb < (0 : Int32) then true else (if nt < nb then true else (if (512 : Int32) < nt then true else (if (f_R_outside np (0 : Int32) (255 : Int32)) = true then true else false))))), st, cK)
set_option maxHeartbeats 4000000 in
set_option maxRecDepth 100000 in
theorem c_R_grant (l : Launch) (D : va_G) (q : Nat → ClassId) (xa : Nat → Nat) (th : Int32) (ca : Int32) (st : Int32) (co : Int32) (ra : Int32) (rb : Int32) (rc : Int32) (im : Int32) (hf : Int32) (rz : Bool) (fM : Nat → Int32) (gT : Nat → Bool) (cK : Nat → Cp) (A : Nat → Prop) (hD : va_D A (rW q xa th ca st co ra rb rc im hf rz fM gT cK)) (r0 : Int32) (nb : Int32) (nt : Int32) (na : Int32) (np : Int32) : WMv l y_R_grant b_R_grant 6 none ({ frames := 1, cells := 0, slots := 0, locals := 25 }) [.ref (xa 0), .int r0, .int nb, .int nt, .int na, .int np] D (tyR q) (rW q xa th ca st co ra rb rc im hf rz fM gT cK) (rW q xa ((f_R_grant st cK r0 nb nt na np).1) ca ((f_R_grant st cK r0 nb nt na np).2.1) co ra rb rc im hf rz fM gT ((f_R_grant st cK r0 nb nt na np).2.2)) A := by
  refine ofV (by decide) (Nat.le_of_ble_eq_true rfl) ?_
  intro p e s m below meth c ls S hr hlocks hK hN hP hl
  have hx := S.1
  have hb := S.2.1
  have hS : va_S A s.heap s.heap [] := va_S.rf
  have hl : lv_has ls 6 [(0, .ref (xa 0)), (1, .int r0), (2, .int nb), (3, .int nt), (4, .int na), (5, .int np)] := hl
  refine lv_aload_n hx hb d_R_grant_0 rfl (lv_at hl 0 rfl) ?_
  refine lv_iload_n hx hb d_R_grant_1 rfl (lv_at hl 1 rfl) ?_
  refine lv_iconst (v := (0 : Int32)) hx hb d_R_grant_2 (by decide) ?_
  refine lv_bipush (v := (9 : Int32)) hx hb d_R_grant_3 (by decide) ?_
  refine c_pS [.ref (xa 0)] S (c_R_outside l _ _ _ _ _ _ _ _ _ _ _ _ _ _ _ _ r0 (0 : Int32) (9 : Int32)) mf_R_outside ml_R_43 hK hN hP ⟨rfl, rfl, Nat.le_of_ble_eq_true rfl, Nat.le_of_ble_eq_true rfl⟩ rfl hl.1 rfl (Nat.le_of_ble_eq_true rfl) d_R_grant_5 ⟨Nat.zero_le _, Nat.zero_le _⟩ ?_
  refine jn 44 ls [.ref (xa 0)] (b2i (if (f_R_outside r0 (0 : Int32) (9 : Int32)) = true then true else (if nb < (0 : Int32) then true else (if nt < nb then true else (if (512 : Int32) < nt then true else (if (f_R_outside np (0 : Int32) (255 : Int32)) = true then true else false)))))) ?_ (fun k_44 => ?_)
  · -- from 44 on
    refine r_put_th S hK hP (rW_D hD) hS fl_R_39 d_R_grant_44 (fun H locs hP hS => ?_)
    refine lv_aload_n hx hb d_R_grant_47 rfl (lv_at hl 0 rfl) ?_
    refine r_get S hK hP 0 (by decide) fl_R_39 rfl d_R_grant_48 ?_
    refine lv_if_le (tgt := 55) hx hb d_R_grant_51 rfl (fun h_51 => ?_) (fun h_51 => ?_)
    · -- 51: taken
      have h0 : vp_in r0 12 := gr_in h_51
      refine lv_aload_n hx hb d_R_grant_55 rfl (lv_at hl 0 rfl) ?_
      refine lv_iload_n hx hb d_R_grant_56 rfl (lv_at hl 1 rfl) ?_
      refine lv_iload_n hx hb d_R_grant_57 rfl (lv_at hl 2 rfl) ?_
      refine lv_iload_n hx hb d_R_grant_58 rfl (lv_at hl 3 rfl) ?_
      refine lv_iload hx hb d_R_grant_59 (lv_at hl 4 rfl) ?_
      refine lv_iload hx hb d_R_grant_61 (lv_at hl 5 rfl) ?_
      refine c_vV [] S (c_R_set l _ _ _ _ _ _ _ _ _ _ _ _ _ _ _ _ A (rW_D hD) r0 nb nt na np (by first | assumption | exact in_k rfl | decide)) mf_R_set ml_R_35 hK hN hP hS 0 3 rfl rfl ⟨rfl, rfl, Nat.le_of_ble_eq_true rfl, Nat.le_of_ble_eq_true rfl⟩ rfl hl.1 rfl (Nat.le_of_ble_eq_true rfl) d_R_grant_63 ⟨Nat.zero_le _, Nat.zero_le _⟩ (fun H locs hP hS => ?_)
      refine lv_aload_n hx hb d_R_grant_66 rfl (lv_at hl 0 rfl) ?_
      refine lv_iconst (v := (0 : Int32)) hx hb d_R_grant_67 (by decide) ?_
      refine r_put_st S hK hP (rW_D hD) hS fl_R_168 d_R_grant_68 (fun H locs hP hS => ?_)
      have hF : f_R_grant st cK r0 nb nt na np = (b2i (if (f_R_outside r0 (0 : Int32) (9 : Int32)) = true then true else (if nb < (0 : Int32) then true else (if nt < nb then true else (if (512 : Int32) < nt then true else (if (f_R_outside np (0 : Int32) (255 : Int32)) = true then true else false))))), (0 : Int32), (f_R_set cK r0 nb nt na np)) := (if_pos h_51).trans (rfl)
      exact e_wv S hr hlocks hP hS (congrArg (fun z => rW q xa z.1 ca z.2.1 co ra rb rc im hf rz fM gT z.2.2) hF.symm) d_R_grant_71
    · -- 51: not taken
      have hF : f_R_grant st cK r0 nb nt na np = (b2i (if (f_R_outside r0 (0 : Int32) (9 : Int32)) = true then true else (if nb < (0 : Int32) then true else (if nt < nb then true else (if (512 : Int32) < nt then true else (if (f_R_outside np (0 : Int32) (255 : Int32)) = true then true else false))))), st, cK) := (if_neg h_51).trans (rfl)
      exact e_wv S hr hlocks hP hS (congrArg (fun z => rW q xa z.1 ca z.2.1 co ra rb rc im hf rz fM gT z.2.2) hF.symm) d_R_grant_54
  · -- to 44
    refine zb_ne (tgt := 39) hx hb d_R_grant_8 rfl (fun h_8 => ?_) (fun h_8 => ?_)
    · -- 8: taken
      refine lv_iconst (v := (1 : Int32)) hx hb d_R_grant_39 (by decide) ?_
      refine lv_goto (tgt := 44) hx hb d_R_grant_40 rfl ?_
      exact k_44 _ (congrArg b2i ((if_pos h_8).trans (rfl) : (if (f_R_outside r0 (0 : Int32) (9 : Int32)) = true then true else (if nb < (0 : Int32) then true else (if nt < nb then true else (if (512 : Int32) < nt then true else (if (f_R_outside np (0 : Int32) (255 : Int32)) = true then true else false))))) = true).symm)
    · -- 8: not taken
      refine lv_iload_n hx hb d_R_grant_11 rfl (lv_at hl 2 rfl) ?_
      refine lv_if_lt (tgt := 39) hx hb d_R_grant_12 rfl (fun h_12 => ?_) (fun h_12 => ?_)
      · -- 12: taken
        refine lv_iconst (v := (1 : Int32)) hx hb d_R_grant_39 (by decide) ?_
        refine lv_goto (tgt := 44) hx hb d_R_grant_40 rfl ?_
        exact k_44 _ (congrArg b2i ((if_neg (bn_f h_8)).trans ((if_pos h_12).trans (rfl)) : (if (f_R_outside r0 (0 : Int32) (9 : Int32)) = true then true else (if nb < (0 : Int32) then true else (if nt < nb then true else (if (512 : Int32) < nt then true else (if (f_R_outside np (0 : Int32) (255 : Int32)) = true then true else false))))) = true).symm)
      · -- 12: not taken
        refine lv_iload_n hx hb d_R_grant_15 rfl (lv_at hl 2 rfl) ?_
        refine lv_iload_n hx hb d_R_grant_16 rfl (lv_at hl 3 rfl) ?_
        refine lv_icmp_gt (tgt := 39) hx hb d_R_grant_17 rfl (fun h_17 => ?_) (fun h_17 => ?_)
        · -- 17: taken
          refine lv_iconst (v := (1 : Int32)) hx hb d_R_grant_39 (by decide) ?_
          refine lv_goto (tgt := 44) hx hb d_R_grant_40 rfl ?_
          exact k_44 _ (congrArg b2i ((if_neg (bn_f h_8)).trans ((if_neg h_12).trans ((if_pos h_17).trans (rfl))) : (if (f_R_outside r0 (0 : Int32) (9 : Int32)) = true then true else (if nb < (0 : Int32) then true else (if nt < nb then true else (if (512 : Int32) < nt then true else (if (f_R_outside np (0 : Int32) (255 : Int32)) = true then true else false))))) = true).symm)
        · -- 17: not taken
          refine lv_iload_n hx hb d_R_grant_20 rfl (lv_at hl 3 rfl) ?_
          refine lv_sipush (v := (512 : Int32)) hx hb d_R_grant_21 (by decide) ?_
          refine lv_icmp_gt (tgt := 39) hx hb d_R_grant_24 rfl (fun h_24 => ?_) (fun h_24 => ?_)
          · -- 24: taken
            refine lv_iconst (v := (1 : Int32)) hx hb d_R_grant_39 (by decide) ?_
            refine lv_goto (tgt := 44) hx hb d_R_grant_40 rfl ?_
            exact k_44 _ (congrArg b2i ((if_neg (bn_f h_8)).trans ((if_neg h_12).trans ((if_neg h_17).trans ((if_pos h_24).trans (rfl)))) : (if (f_R_outside r0 (0 : Int32) (9 : Int32)) = true then true else (if nb < (0 : Int32) then true else (if nt < nb then true else (if (512 : Int32) < nt then true else (if (f_R_outside np (0 : Int32) (255 : Int32)) = true then true else false))))) = true).symm)
          · -- 24: not taken
            refine lv_iload hx hb d_R_grant_27 (lv_at hl 5 rfl) ?_
            refine lv_iconst (v := (0 : Int32)) hx hb d_R_grant_29 (by decide) ?_
            refine lv_sipush (v := (255 : Int32)) hx hb d_R_grant_30 (by decide) ?_
            refine c_pS [.ref (xa 0)] S (c_R_outside l _ _ _ _ _ _ _ _ _ _ _ _ _ _ _ _ np (0 : Int32) (255 : Int32)) mf_R_outside ml_R_43 hK hN hP ⟨rfl, rfl, Nat.le_of_ble_eq_true rfl, Nat.le_of_ble_eq_true rfl⟩ rfl hl.1 rfl (Nat.le_of_ble_eq_true rfl) d_R_grant_33 ⟨Nat.zero_le _, Nat.zero_le _⟩ ?_
            refine zb_eq (tgt := 43) hx hb d_R_grant_36 rfl (fun h_36 => ?_) (fun h_36 => ?_)
            · -- 36: taken
              refine lv_iconst (v := (0 : Int32)) hx hb d_R_grant_43 (by decide) ?_
              exact k_44 _ (congrArg b2i ((if_neg (bn_f h_8)).trans ((if_neg h_12).trans ((if_neg h_17).trans ((if_neg h_24).trans ((if_neg (bn_f h_36)).trans (rfl))))) : (if (f_R_outside r0 (0 : Int32) (9 : Int32)) = true then true else (if nb < (0 : Int32) then true else (if nt < nb then true else (if (512 : Int32) < nt then true else (if (f_R_outside np (0 : Int32) (255 : Int32)) = true then true else false))))) = false).symm)
            · -- 36: not taken
              refine lv_iconst (v := (1 : Int32)) hx hb d_R_grant_39 (by decide) ?_
              refine lv_goto (tgt := 44) hx hb d_R_grant_40 rfl ?_
              exact k_44 _ (congrArg b2i ((if_neg (bn_f h_8)).trans ((if_neg h_12).trans ((if_neg h_17).trans ((if_neg h_24).trans ((if_pos h_36).trans (rfl))))) : (if (f_R_outside r0 (0 : Int32) (9 : Int32)) = true then true else (if nb < (0 : Int32) then true else (if nt < nb then true else (if (512 : Int32) < nt then true else (if (f_R_outside np (0 : Int32) (255 : Int32)) = true then true else false))))) = true).symm)
def f_R_poke (fM : Nat → Int32) (gT : Nat → Bool) (xt : Int32) (wd : Int32) (bt : Int32) : Int32 × (Nat → Int32) × (Nat → Bool) :=
  if (b2i (if (f_R_outside bt (1 : Int32) (4 : Int32)) = true then true else (if xt < (0 : Int32) then true else (if xt ≤ ((512 : Int32) - bt) then false else true)))) = (0 : Int32) then (b2i (if (f_R_outside bt (1 : Int32) (4 : Int32)) = true then true else (if xt < (0 : Int32) then true else (if xt ≤ ((512 : Int32) - bt) then false else true))), (f_R_store fM gT xt wd bt).1, (f_R_store fM gT xt wd bt).2)
  else (b2i (if (f_R_outside bt (1 : Int32) (4 : Int32)) = true then true else (if xt < (0 : Int32) then true else (if xt ≤ ((512 : Int32) - bt) then false else true))), fM, gT)
set_option maxHeartbeats 4000000 in
set_option maxRecDepth 100000 in
theorem c_R_poke (l : Launch) (D : va_G) (q : Nat → ClassId) (xa : Nat → Nat) (th : Int32) (ca : Int32) (st : Int32) (co : Int32) (ra : Int32) (rb : Int32) (rc : Int32) (im : Int32) (hf : Int32) (rz : Bool) (fM : Nat → Int32) (gT : Nat → Bool) (cK : Nat → Cp) (A : Nat → Prop) (hD : va_D A (rW q xa th ca st co ra rb rc im hf rz fM gT cK)) (xt : Int32) (wd : Int32) (bt : Int32) : WMv l y_R_poke b_R_poke 4 none ({ frames := 1, cells := 0, slots := 0, locals := 24 }) [.ref (xa 0), .int xt, .int wd, .int bt] D (tyR q) (rW q xa th ca st co ra rb rc im hf rz fM gT cK) (rW q xa ((f_R_poke fM gT xt wd bt).1) ca st co ra rb rc im hf rz ((f_R_poke fM gT xt wd bt).2.1) ((f_R_poke fM gT xt wd bt).2.2) cK) A := by
  refine ofV (by decide) (Nat.le_of_ble_eq_true rfl) ?_
  intro p e s m below meth c ls S hr hlocks hK hN hP hl
  have hx := S.1
  have hb := S.2.1
  have hS : va_S A s.heap s.heap [] := va_S.rf
  have hl : lv_has ls 4 [(0, .ref (xa 0)), (1, .int xt), (2, .int wd), (3, .int bt)] := hl
  refine lv_aload_n hx hb d_R_poke_0 rfl (lv_at hl 0 rfl) ?_
  refine lv_iload_n hx hb d_R_poke_1 rfl (lv_at hl 3 rfl) ?_
  refine lv_iconst (v := (1 : Int32)) hx hb d_R_poke_2 (by decide) ?_
  refine lv_iconst (v := (4 : Int32)) hx hb d_R_poke_3 (by decide) ?_
  refine c_pS [.ref (xa 0)] S (c_R_outside l _ _ _ _ _ _ _ _ _ _ _ _ _ _ _ _ bt (1 : Int32) (4 : Int32)) mf_R_outside ml_R_43 hK hN hP ⟨rfl, rfl, Nat.le_of_ble_eq_true rfl, Nat.le_of_ble_eq_true rfl⟩ rfl hl.1 rfl (Nat.le_of_ble_eq_true rfl) d_R_poke_4 ⟨Nat.zero_le _, Nat.zero_le _⟩ ?_
  refine jn 28 ls [.ref (xa 0)] (b2i (if (f_R_outside bt (1 : Int32) (4 : Int32)) = true then true else (if xt < (0 : Int32) then true else (if xt ≤ ((512 : Int32) - bt) then false else true)))) ?_ (fun k_28 => ?_)
  · -- from 28 on
    refine r_put_th S hK hP (rW_D hD) hS fl_R_39 d_R_poke_28 (fun H locs hP hS => ?_)
    refine lv_aload_n hx hb d_R_poke_31 rfl (lv_at hl 0 rfl) ?_
    refine r_get S hK hP 0 (by decide) fl_R_39 rfl d_R_poke_32 ?_
    refine lv_if_ne (tgt := 45) hx hb d_R_poke_35 rfl (fun h_35 => ?_) (fun h_35 => ?_)
    · -- 35: taken
      have hF : f_R_poke fM gT xt wd bt = (b2i (if (f_R_outside bt (1 : Int32) (4 : Int32)) = true then true else (if xt < (0 : Int32) then true else (if xt ≤ ((512 : Int32) - bt) then false else true))), fM, gT) := (if_neg h_35).trans (rfl)
      exact e_wv S hr hlocks hP hS (congrArg (fun z => rW q xa z.1 ca st co ra rb rc im hf rz z.2.1 z.2.2 cK) hF.symm) d_R_poke_45
    · -- 35: not taken
      have h0 : As xt bt := po_as h_35
      refine lv_aload_n hx hb d_R_poke_38 rfl (lv_at hl 0 rfl) ?_
      refine lv_iload_n hx hb d_R_poke_39 rfl (lv_at hl 1 rfl) ?_
      refine lv_iload_n hx hb d_R_poke_40 rfl (lv_at hl 2 rfl) ?_
      refine lv_iload_n hx hb d_R_poke_41 rfl (lv_at hl 3 rfl) ?_
      refine c_vV [] S (c_R_store l _ _ _ _ _ _ _ _ _ _ _ _ _ _ _ _ A (rW_D hD) xt wd bt (by first | assumption | exact in_k rfl | decide)) mf_R_store ml_R_122 hK hN hP hS 0 3 rfl rfl ⟨rfl, rfl, Nat.le_of_ble_eq_true rfl, Nat.le_of_ble_eq_true rfl⟩ rfl hl.1 rfl (Nat.le_of_ble_eq_true rfl) d_R_poke_42 ⟨Nat.zero_le _, Nat.zero_le _⟩ (fun H locs hP hS => ?_)
      have hF : f_R_poke fM gT xt wd bt = (b2i (if (f_R_outside bt (1 : Int32) (4 : Int32)) = true then true else (if xt < (0 : Int32) then true else (if xt ≤ ((512 : Int32) - bt) then false else true))), (f_R_store fM gT xt wd bt).1, (f_R_store fM gT xt wd bt).2) := (if_pos h_35).trans (rfl)
      exact e_wv S hr hlocks hP hS (congrArg (fun z => rW q xa z.1 ca st co ra rb rc im hf rz z.2.1 z.2.2 cK) hF.symm) d_R_poke_45
  · -- to 28
    refine zb_ne (tgt := 23) hx hb d_R_poke_7 rfl (fun h_7 => ?_) (fun h_7 => ?_)
    · -- 7: taken
      refine lv_iconst (v := (1 : Int32)) hx hb d_R_poke_23 (by decide) ?_
      refine lv_goto (tgt := 28) hx hb d_R_poke_24 rfl ?_
      exact k_28 _ (congrArg b2i ((if_pos h_7).trans (rfl) : (if (f_R_outside bt (1 : Int32) (4 : Int32)) = true then true else (if xt < (0 : Int32) then true else (if xt ≤ ((512 : Int32) - bt) then false else true))) = true).symm)
    · -- 7: not taken
      refine lv_iload_n hx hb d_R_poke_10 rfl (lv_at hl 1 rfl) ?_
      refine lv_if_lt (tgt := 23) hx hb d_R_poke_11 rfl (fun h_11 => ?_) (fun h_11 => ?_)
      · -- 11: taken
        refine lv_iconst (v := (1 : Int32)) hx hb d_R_poke_23 (by decide) ?_
        refine lv_goto (tgt := 28) hx hb d_R_poke_24 rfl ?_
        exact k_28 _ (congrArg b2i ((if_neg (bn_f h_7)).trans ((if_pos h_11).trans (rfl)) : (if (f_R_outside bt (1 : Int32) (4 : Int32)) = true then true else (if xt < (0 : Int32) then true else (if xt ≤ ((512 : Int32) - bt) then false else true))) = true).symm)
      · -- 11: not taken
        refine lv_iload_n hx hb d_R_poke_14 rfl (lv_at hl 1 rfl) ?_
        refine lv_sipush (v := (512 : Int32)) hx hb d_R_poke_15 (by decide) ?_
        refine lv_iload_n hx hb d_R_poke_18 rfl (lv_at hl 3 rfl) ?_
        refine lv_isub hx hb d_R_poke_19 ?_
        refine lv_icmp_le (tgt := 27) hx hb d_R_poke_20 rfl (fun h_20 => ?_) (fun h_20 => ?_)
        · -- 20: taken
          refine lv_iconst (v := (0 : Int32)) hx hb d_R_poke_27 (by decide) ?_
          exact k_28 _ (congrArg b2i ((if_neg (bn_f h_7)).trans ((if_neg h_11).trans ((if_pos h_20).trans (rfl))) : (if (f_R_outside bt (1 : Int32) (4 : Int32)) = true then true else (if xt < (0 : Int32) then true else (if xt ≤ ((512 : Int32) - bt) then false else true))) = false).symm)
        · -- 20: not taken
          refine lv_iconst (v := (1 : Int32)) hx hb d_R_poke_23 (by decide) ?_
          refine lv_goto (tgt := 28) hx hb d_R_poke_24 rfl ?_
          exact k_28 _ (congrArg b2i ((if_neg (bn_f h_7)).trans ((if_neg h_11).trans ((if_neg h_20).trans (rfl))) : (if (f_R_outside bt (1 : Int32) (4 : Int32)) = true then true else (if xt < (0 : Int32) then true else (if xt ≤ ((512 : Int32) - bt) then false else true))) = true).symm)
def f_R_state (st : Int32) : Int32 × Int32 :=
  (st, (0 : Int32))
set_option maxHeartbeats 4000000 in
set_option maxRecDepth 100000 in
theorem c_R_state (l : Launch) (D : va_G) (q : Nat → ClassId) (xa : Nat → Nat) (th : Int32) (ca : Int32) (st : Int32) (co : Int32) (ra : Int32) (rb : Int32) (rc : Int32) (im : Int32) (hf : Int32) (rz : Bool) (fM : Nat → Int32) (gT : Nat → Bool) (cK : Nat → Cp) (A : Nat → Prop) (hD : va_D A (rW q xa th ca st co ra rb rc im hf rz fM gT cK)) : WMi l y_R_state b_R_state 1 (some .int) ({ frames := 0, cells := 0, slots := 0, locals := 0 }) [.ref (xa 0)] D (tyR q) (rW q xa th ca st co ra rb rc im hf rz fM gT cK) (rW q xa ((f_R_state st).2) ca st co ra rb rc im hf rz fM gT cK) A (((f_R_state st).1)) := by
  refine ofI (by decide) (Nat.le_of_ble_eq_true rfl) ?_
  intro p e s m below meth c ls S hr hlocks hK hN hP hl
  have hx := S.1
  have hb := S.2.1
  have hS : va_S A s.heap s.heap [] := va_S.rf
  have hl : lv_has ls 1 [(0, .ref (xa 0))] := hl
  refine lv_aload_n hx hb d_R_state_0 rfl (lv_at hl 0 rfl) ?_
  refine lv_iconst (v := (0 : Int32)) hx hb d_R_state_1 (by decide) ?_
  refine r_put_th S hK hP (rW_D hD) hS fl_R_39 d_R_state_2 (fun H locs hP hS => ?_)
  refine lv_aload_n hx hb d_R_state_5 rfl (lv_at hl 0 rfl) ?_
  refine r_get S hK hP 10 (by decide) fl_R_168 rfl d_R_state_6 ?_
  have hF : f_R_state st = (st, (0 : Int32)) := rfl
  exact e_wi S hr hlocks hP hS (congrArg (fun z => z.1) hF.symm) (congrArg (fun z => rW q xa z.2 ca st co ra rb rc im hf rz fM gT cK) hF.symm) d_R_state_9
def f_R_cause (ca : Int32) : Int32 × Int32 :=
  (ca, (0 : Int32))
set_option maxHeartbeats 4000000 in
set_option maxRecDepth 100000 in
theorem c_R_cause (l : Launch) (D : va_G) (q : Nat → ClassId) (xa : Nat → Nat) (th : Int32) (ca : Int32) (st : Int32) (co : Int32) (ra : Int32) (rb : Int32) (rc : Int32) (im : Int32) (hf : Int32) (rz : Bool) (fM : Nat → Int32) (gT : Nat → Bool) (cK : Nat → Cp) (A : Nat → Prop) (hD : va_D A (rW q xa th ca st co ra rb rc im hf rz fM gT cK)) : WMi l y_R_cause b_R_cause 1 (some .int) ({ frames := 0, cells := 0, slots := 0, locals := 0 }) [.ref (xa 0)] D (tyR q) (rW q xa th ca st co ra rb rc im hf rz fM gT cK) (rW q xa ((f_R_cause ca).2) ca st co ra rb rc im hf rz fM gT cK) A (((f_R_cause ca).1)) := by
  refine ofI (by decide) (Nat.le_of_ble_eq_true rfl) ?_
  intro p e s m below meth c ls S hr hlocks hK hN hP hl
  have hx := S.1
  have hb := S.2.1
  have hS : va_S A s.heap s.heap [] := va_S.rf
  have hl : lv_has ls 1 [(0, .ref (xa 0))] := hl
  refine lv_aload_n hx hb d_R_cause_0 rfl (lv_at hl 0 rfl) ?_
  refine lv_iconst (v := (0 : Int32)) hx hb d_R_cause_1 (by decide) ?_
  refine r_put_th S hK hP (rW_D hD) hS fl_R_39 d_R_cause_2 (fun H locs hP hS => ?_)
  refine lv_aload_n hx hb d_R_cause_5 rfl (lv_at hl 0 rfl) ?_
  refine r_get S hK hP 9 (by decide) fl_R_165 rfl d_R_cause_6 ?_
  have hF : f_R_cause ca = (ca, (0 : Int32)) := rfl
  exact e_wi S hr hlocks hP hS (congrArg (fun z => z.1) hF.symm) (congrArg (fun z => rW q xa z.2 ca st co ra rb rc im hf rz fM gT cK) hF.symm) d_R_cause_9
def f_R_look (cK : Nat → Cp) (r0 : Int32) (wh : Int32) : Int32 × Int32 :=
  if (f_R_outside r0 (0 : Int32) (10 : Int32)) = true then ((f_R_refuse (1 : Int32)).1, (f_R_refuse (1 : Int32)).2)
  else if (f_R_outside wh (0 : Int32) (5 : Int32)) = true then ((f_R_refuse (1 : Int32)).1, (f_R_refuse (1 : Int32)).2)
  else (if wh = (0 : Int32) then (if (k_v (cK r0.toNatClampNeg)) = true then (1 : Int32) else (0 : Int32)) else (if (3 : Int32) ≤ wh then (if wh = (3 : Int32) then (k_p (cK r0.toNatClampNeg)) else (if wh = (4 : Int32) then (k_y (cK r0.toNatClampNeg)) else (k_a (cK r0.toNatClampNeg)))) else (if wh = (1 : Int32) then (k_b (cK r0.toNatClampNeg)) else (k_t (cK r0.toNatClampNeg)))), (0 : Int32))
set_option maxHeartbeats 4000000 in
set_option maxRecDepth 100000 in
theorem c_R_look (l : Launch) (D : va_G) (q : Nat → ClassId) (xa : Nat → Nat) (th : Int32) (ca : Int32) (st : Int32) (co : Int32) (ra : Int32) (rb : Int32) (rc : Int32) (im : Int32) (hf : Int32) (rz : Bool) (fM : Nat → Int32) (gT : Nat → Bool) (cK : Nat → Cp) (A : Nat → Prop) (hD : va_D A (rW q xa th ca st co ra rb rc im hf rz fM gT cK)) (r0 : Int32) (wh : Int32) : WMi l y_R_look b_R_look 5 (some .int) ({ frames := 1, cells := 0, slots := 0, locals := 22 }) [.ref (xa 0), .int r0, .int wh] D (tyR q) (rW q xa th ca st co ra rb rc im hf rz fM gT cK) (rW q xa ((f_R_look cK r0 wh).2) ca st co ra rb rc im hf rz fM gT cK) A (((f_R_look cK r0 wh).1)) := by
  refine ofI (by decide) (Nat.le_of_ble_eq_true rfl) ?_
  intro p e s m below meth c ls S hr hlocks hK hN hP hl
  have hx := S.1
  have hb := S.2.1
  have hS : va_S A s.heap s.heap [] := va_S.rf
  have hl : lv_has ls 5 [(0, .ref (xa 0)), (1, .int r0), (2, .int wh)] := hl
  refine lv_iload_n hx hb d_R_look_0 rfl (lv_at hl 1 rfl) ?_
  refine lv_iconst (v := (0 : Int32)) hx hb d_R_look_1 (by decide) ?_
  refine lv_bipush (v := (10 : Int32)) hx hb d_R_look_2 (by decide) ?_
  refine c_pS [] S (c_R_outside l _ _ _ _ _ _ _ _ _ _ _ _ _ _ _ _ r0 (0 : Int32) (10 : Int32)) mf_R_outside ml_R_43 hK hN hP ⟨rfl, rfl, Nat.le_of_ble_eq_true rfl, Nat.le_of_ble_eq_true rfl⟩ rfl hl.1 rfl (Nat.le_of_ble_eq_true rfl) d_R_look_4 ⟨Nat.zero_le _, Nat.zero_le _⟩ ?_
  refine zb_ne (tgt := 19) hx hb d_R_look_7 rfl (fun h_7 => ?_) (fun h_7 => ?_)
  · -- 7: taken
    refine lv_aload_n hx hb d_R_look_19 rfl (lv_at hl 0 rfl) ?_
    refine lv_iconst (v := (1 : Int32)) hx hb d_R_look_20 (by decide) ?_
    refine c_iV [] S (c_R_refuse l _ _ _ _ _ _ _ _ _ _ _ _ _ _ _ _ A (rW_D hD) (1 : Int32)) mf_R_refuse ml_R_180 hK hN hP hS 0 3 rfl rfl ⟨rfl, rfl, Nat.le_of_ble_eq_true rfl, Nat.le_of_ble_eq_true rfl⟩ rfl hl.1 rfl (Nat.le_of_ble_eq_true rfl) d_R_look_21 ⟨Nat.zero_le _, Nat.zero_le _⟩ (fun H locs hP hS => ?_)
    have hF : f_R_look cK r0 wh = ((f_R_refuse (1 : Int32)).1, (f_R_refuse (1 : Int32)).2) := (if_pos h_7).trans (rfl)
    exact e_wi S hr hlocks hP hS (congrArg (fun z => z.1) hF.symm) (congrArg (fun z => rW q xa z.2 ca st co ra rb rc im hf rz fM gT cK) hF.symm) d_R_look_24
  · -- 7: not taken
    refine lv_iload_n hx hb d_R_look_10 rfl (lv_at hl 2 rfl) ?_
    refine lv_iconst (v := (0 : Int32)) hx hb d_R_look_11 (by decide) ?_
    refine lv_iconst (v := (5 : Int32)) hx hb d_R_look_12 (by decide) ?_
    refine c_pS [] S (c_R_outside l _ _ _ _ _ _ _ _ _ _ _ _ _ _ _ _ wh (0 : Int32) (5 : Int32)) mf_R_outside ml_R_43 hK hN hP ⟨rfl, rfl, Nat.le_of_ble_eq_true rfl, Nat.le_of_ble_eq_true rfl⟩ rfl hl.1 rfl (Nat.le_of_ble_eq_true rfl) d_R_look_13 ⟨Nat.zero_le _, Nat.zero_le _⟩ ?_
    refine zb_eq (tgt := 25) hx hb d_R_look_16 rfl (fun h_16 => ?_) (fun h_16 => ?_)
    · -- 16: taken
      have h0 : vp_in r0 12 := ou_in h_7 (by decide) (by decide)
      refine lv_aload_n hx hb d_R_look_25 rfl (lv_at hl 0 rfl) ?_
      refine lv_iconst (v := (0 : Int32)) hx hb d_R_look_26 (by decide) ?_
      refine r_put_th S hK hP (rW_D hD) hS fl_R_39 d_R_look_27 (fun H locs hP hS => ?_)
      refine lv_iload_n hx hb d_R_look_30 rfl (lv_at hl 2 rfl) ?_
      refine lv_iconst (v := (1 : Int32)) hx hb d_R_look_31 (by decide) ?_
      refine jn 50 ls [] (if wh = (1 : Int32) then (k_b (cK r0.toNatClampNeg)) else (k_t (cK r0.toNatClampNeg))) ?_ (fun k_50 => ?_)
      · -- from 50 on
        refine lv_istore_n (lv' := [(3, .int _), (0, .ref _), (1, .int _), (2, .int _)]) hx hb d_R_look_50 rfl hl (by decide) rfl (fun ls hl => ?_)
        refine lv_iload_n hx hb d_R_look_51 rfl (lv_at hl 3 rfl) ?_
        refine lv_iconst (v := (3 : Int32)) hx hb d_R_look_52 (by decide) ?_
        refine jn 85 ls [] (if wh = (3 : Int32) then (k_p (cK r0.toNatClampNeg)) else (if wh = (4 : Int32) then (k_y (cK r0.toNatClampNeg)) else (k_a (cK r0.toNatClampNeg)))) ?_ (fun k_85 => ?_)
        · -- from 85 on
          refine lv_istore (lv' := [(4, .int _), (3, .int _), (0, .ref _), (1, .int _), (2, .int _)]) hx hb d_R_look_85 hl (by decide) rfl (fun ls hl => ?_)
          refine lv_iload_n hx hb d_R_look_87 rfl (lv_at hl 4 rfl) ?_
          refine jn 119 ls [] (if wh = (0 : Int32) then (if (k_v (cK r0.toNatClampNeg)) = true then (1 : Int32) else (0 : Int32)) else (if (3 : Int32) ≤ wh then (if wh = (3 : Int32) then (k_p (cK r0.toNatClampNeg)) else (if wh = (4 : Int32) then (k_y (cK r0.toNatClampNeg)) else (k_a (cK r0.toNatClampNeg)))) else (if wh = (1 : Int32) then (k_b (cK r0.toNatClampNeg)) else (k_t (cK r0.toNatClampNeg))))) ?_ (fun k_119 => ?_)
          · -- from 119 on
            have hF : f_R_look cK r0 wh = (if wh = (0 : Int32) then (if (k_v (cK r0.toNatClampNeg)) = true then (1 : Int32) else (0 : Int32)) else (if (3 : Int32) ≤ wh then (if wh = (3 : Int32) then (k_p (cK r0.toNatClampNeg)) else (if wh = (4 : Int32) then (k_y (cK r0.toNatClampNeg)) else (k_a (cK r0.toNatClampNeg)))) else (if wh = (1 : Int32) then (k_b (cK r0.toNatClampNeg)) else (k_t (cK r0.toNatClampNeg)))), (0 : Int32)) := (if_neg (bn_f h_7)).trans ((if_neg (bn_f h_16)).trans (rfl))
            exact e_wi S hr hlocks hP hS (congrArg (fun z => z.1) hF.symm) (congrArg (fun z => rW q xa z.2 ca st co ra rb rc im hf rz fM gT cK) hF.symm) d_R_look_119
          · -- to 119
            refine lv_if_ne (tgt := 108) hx hb d_R_look_88 rfl (fun h_88 => ?_) (fun h_88 => ?_)
            · -- 88: taken
              refine lv_iload_n hx hb d_R_look_108 rfl (lv_at hl 4 rfl) ?_
              refine lv_iconst (v := (3 : Int32)) hx hb d_R_look_109 (by decide) ?_
              refine lv_icmp_ge (tgt := 117) hx hb d_R_look_110 rfl (fun h_110 => ?_) (fun h_110 => ?_)
              · -- 110: taken
                refine lv_iload hx hb d_R_look_117 (lv_at hl 0 rfl) ?_
                exact k_119 _ ((if_neg h_88).trans ((if_pos h_110).trans (rfl)) : (if wh = (0 : Int32) then (if (k_v (cK r0.toNatClampNeg)) = true then (1 : Int32) else (0 : Int32)) else (if (3 : Int32) ≤ wh then (if wh = (3 : Int32) then (k_p (cK r0.toNatClampNeg)) else (if wh = (4 : Int32) then (k_y (cK r0.toNatClampNeg)) else (k_a (cK r0.toNatClampNeg)))) else (if wh = (1 : Int32) then (k_b (cK r0.toNatClampNeg)) else (k_t (cK r0.toNatClampNeg))))) = if wh = (3 : Int32) then (k_p (cK r0.toNatClampNeg)) else (if wh = (4 : Int32) then (k_y (cK r0.toNatClampNeg)) else (k_a (cK r0.toNatClampNeg)))).symm
              · -- 110: not taken
                refine lv_iload_n hx hb d_R_look_113 rfl (lv_at hl 1 rfl) ?_
                refine lv_goto (tgt := 119) hx hb d_R_look_114 rfl ?_
                exact k_119 _ ((if_neg h_88).trans ((if_neg h_110).trans (rfl)) : (if wh = (0 : Int32) then (if (k_v (cK r0.toNatClampNeg)) = true then (1 : Int32) else (0 : Int32)) else (if (3 : Int32) ≤ wh then (if wh = (3 : Int32) then (k_p (cK r0.toNatClampNeg)) else (if wh = (4 : Int32) then (k_y (cK r0.toNatClampNeg)) else (k_a (cK r0.toNatClampNeg)))) else (if wh = (1 : Int32) then (k_b (cK r0.toNatClampNeg)) else (k_t (cK r0.toNatClampNeg))))) = if wh = (1 : Int32) then (k_b (cK r0.toNatClampNeg)) else (k_t (cK r0.toNatClampNeg))).symm
            · -- 88: not taken
              refine lv_aload_n hx hb d_R_look_91 rfl (lv_at hl 2 rfl) ?_
              refine r_get S hK hP 3 (by decide) fl_R_17 rfl d_R_look_92 ?_
              refine lv_iload_n hx hb d_R_look_95 rfl (lv_at hl 3 rfl) ?_
              refine r_ald_v S hK hP (by first | assumption | exact and7_in _) d_R_look_96 ?_
              refine zb_eq (tgt := 104) hx hb d_R_look_97 rfl (fun h_97 => ?_) (fun h_97 => ?_)
              · -- 97: taken
                refine lv_iconst (v := (0 : Int32)) hx hb d_R_look_104 (by decide) ?_
                refine lv_goto (tgt := 119) hx hb d_R_look_105 rfl ?_
                exact k_119 _ ((if_pos h_88).trans ((if_neg (bn_f h_97)).trans (rfl)) : (if wh = (0 : Int32) then (if (k_v (cK r0.toNatClampNeg)) = true then (1 : Int32) else (0 : Int32)) else (if (3 : Int32) ≤ wh then (if wh = (3 : Int32) then (k_p (cK r0.toNatClampNeg)) else (if wh = (4 : Int32) then (k_y (cK r0.toNatClampNeg)) else (k_a (cK r0.toNatClampNeg)))) else (if wh = (1 : Int32) then (k_b (cK r0.toNatClampNeg)) else (k_t (cK r0.toNatClampNeg))))) = (0 : Int32)).symm
              · -- 97: not taken
                refine lv_iconst (v := (1 : Int32)) hx hb d_R_look_100 (by decide) ?_
                refine lv_goto (tgt := 119) hx hb d_R_look_101 rfl ?_
                exact k_119 _ ((if_pos h_88).trans ((if_pos h_97).trans (rfl)) : (if wh = (0 : Int32) then (if (k_v (cK r0.toNatClampNeg)) = true then (1 : Int32) else (0 : Int32)) else (if (3 : Int32) ≤ wh then (if wh = (3 : Int32) then (k_p (cK r0.toNatClampNeg)) else (if wh = (4 : Int32) then (k_y (cK r0.toNatClampNeg)) else (k_a (cK r0.toNatClampNeg)))) else (if wh = (1 : Int32) then (k_b (cK r0.toNatClampNeg)) else (k_t (cK r0.toNatClampNeg))))) = (1 : Int32)).symm
        · -- to 85
          refine lv_icmp_ne (tgt := 65) hx hb d_R_look_53 rfl (fun h_53 => ?_) (fun h_53 => ?_)
          · -- 53: taken
            refine lv_iload_n hx hb d_R_look_65 rfl (lv_at hl 3 rfl) ?_
            refine lv_iconst (v := (4 : Int32)) hx hb d_R_look_66 (by decide) ?_
            refine lv_icmp_ne (tgt := 79) hx hb d_R_look_67 rfl (fun h_67 => ?_) (fun h_67 => ?_)
            · -- 67: taken
              refine lv_aload_n hx hb d_R_look_79 rfl (lv_at hl 1 rfl) ?_
              refine r_get S hK hP 6 (by decide) fl_R_26 rfl d_R_look_80 ?_
              refine lv_iload_n hx hb d_R_look_83 rfl (lv_at hl 2 rfl) ?_
              refine r_ald_a S hK hP (by first | assumption | exact and7_in _) d_R_look_84 ?_
              exact k_85 _ ((if_neg h_53).trans ((if_neg h_67).trans (rfl)) : (if wh = (3 : Int32) then (k_p (cK r0.toNatClampNeg)) else (if wh = (4 : Int32) then (k_y (cK r0.toNatClampNeg)) else (k_a (cK r0.toNatClampNeg)))) = k_a (cK r0.toNatClampNeg)).symm
            · -- 67: not taken
              refine lv_aload_n hx hb d_R_look_70 rfl (lv_at hl 1 rfl) ?_
              refine r_get S hK hP 8 (by decide) fl_R_32 rfl d_R_look_71 ?_
              refine lv_iload_n hx hb d_R_look_74 rfl (lv_at hl 2 rfl) ?_
              refine r_ald_y S hK hP (by first | assumption | exact and7_in _) d_R_look_75 ?_
              refine lv_goto (tgt := 85) hx hb d_R_look_76 rfl ?_
              exact k_85 _ ((if_neg h_53).trans ((if_pos h_67).trans (rfl)) : (if wh = (3 : Int32) then (k_p (cK r0.toNatClampNeg)) else (if wh = (4 : Int32) then (k_y (cK r0.toNatClampNeg)) else (k_a (cK r0.toNatClampNeg)))) = k_y (cK r0.toNatClampNeg)).symm
          · -- 53: not taken
            refine lv_aload_n hx hb d_R_look_56 rfl (lv_at hl 1 rfl) ?_
            refine r_get S hK hP 7 (by decide) fl_R_29 rfl d_R_look_57 ?_
            refine lv_iload_n hx hb d_R_look_60 rfl (lv_at hl 2 rfl) ?_
            refine r_ald_p S hK hP (by first | assumption | exact and7_in _) d_R_look_61 ?_
            refine lv_goto (tgt := 85) hx hb d_R_look_62 rfl ?_
            exact k_85 _ ((if_pos h_53).trans (rfl) : (if wh = (3 : Int32) then (k_p (cK r0.toNatClampNeg)) else (if wh = (4 : Int32) then (k_y (cK r0.toNatClampNeg)) else (k_a (cK r0.toNatClampNeg)))) = k_p (cK r0.toNatClampNeg)).symm
      · -- to 50
        refine lv_icmp_ne (tgt := 44) hx hb d_R_look_32 rfl (fun h_32 => ?_) (fun h_32 => ?_)
        · -- 32: taken
          refine lv_aload_n hx hb d_R_look_44 rfl (lv_at hl 0 rfl) ?_
          refine r_get S hK hP 5 (by decide) fl_R_23 rfl d_R_look_45 ?_
          refine lv_iload_n hx hb d_R_look_48 rfl (lv_at hl 1 rfl) ?_
          refine r_ald_t S hK hP (by first | assumption | exact and7_in _) d_R_look_49 ?_
          exact k_50 _ ((if_neg h_32).trans (rfl) : (if wh = (1 : Int32) then (k_b (cK r0.toNatClampNeg)) else (k_t (cK r0.toNatClampNeg))) = k_t (cK r0.toNatClampNeg)).symm
        · -- 32: not taken
          refine lv_aload_n hx hb d_R_look_35 rfl (lv_at hl 0 rfl) ?_
          refine r_get S hK hP 4 (by decide) fl_R_20 rfl d_R_look_36 ?_
          refine lv_iload_n hx hb d_R_look_39 rfl (lv_at hl 1 rfl) ?_
          refine r_ald_b S hK hP (by first | assumption | exact and7_in _) d_R_look_40 ?_
          refine lv_goto (tgt := 50) hx hb d_R_look_41 rfl ?_
          exact k_50 _ ((if_pos h_32).trans (rfl) : (if wh = (1 : Int32) then (k_b (cK r0.toNatClampNeg)) else (k_t (cK r0.toNatClampNeg))) = k_b (cK r0.toNatClampNeg)).symm
    · -- 16: not taken
      refine lv_aload_n hx hb d_R_look_19 rfl (lv_at hl 0 rfl) ?_
      refine lv_iconst (v := (1 : Int32)) hx hb d_R_look_20 (by decide) ?_
      refine c_iV [] S (c_R_refuse l _ _ _ _ _ _ _ _ _ _ _ _ _ _ _ _ A (rW_D hD) (1 : Int32)) mf_R_refuse ml_R_180 hK hN hP hS 0 3 rfl rfl ⟨rfl, rfl, Nat.le_of_ble_eq_true rfl, Nat.le_of_ble_eq_true rfl⟩ rfl hl.1 rfl (Nat.le_of_ble_eq_true rfl) d_R_look_21 ⟨Nat.zero_le _, Nat.zero_le _⟩ (fun H locs hP hS => ?_)
      have hF : f_R_look cK r0 wh = ((f_R_refuse (1 : Int32)).1, (f_R_refuse (1 : Int32)).2) := (if_neg (bn_f h_7)).trans ((if_pos h_16).trans (rfl))
      exact e_wi S hr hlocks hP hS (congrArg (fun z => z.1) hF.symm) (congrArg (fun z => rW q xa z.2 ca st co ra rb rc im hf rz fM gT cK) hF.symm) d_R_look_24
def f_R_peek (fM : Nat → Int32) (xt : Int32) : Int32 × Int32 :=
  if (f_R_outside xt (0 : Int32) (511 : Int32)) = true then ((f_R_refuse (1 : Int32)).1, (f_R_refuse (1 : Int32)).2)
  else (fM xt.toNatClampNeg, (0 : Int32))
set_option maxHeartbeats 4000000 in
set_option maxRecDepth 100000 in
theorem c_R_peek (l : Launch) (D : va_G) (q : Nat → ClassId) (xa : Nat → Nat) (th : Int32) (ca : Int32) (st : Int32) (co : Int32) (ra : Int32) (rb : Int32) (rc : Int32) (im : Int32) (hf : Int32) (rz : Bool) (fM : Nat → Int32) (gT : Nat → Bool) (cK : Nat → Cp) (A : Nat → Prop) (hD : va_D A (rW q xa th ca st co ra rb rc im hf rz fM gT cK)) (xt : Int32) : WMi l y_R_peek b_R_peek 2 (some .int) ({ frames := 1, cells := 0, slots := 0, locals := 22 }) [.ref (xa 0), .int xt] D (tyR q) (rW q xa th ca st co ra rb rc im hf rz fM gT cK) (rW q xa ((f_R_peek fM xt).2) ca st co ra rb rc im hf rz fM gT cK) A (((f_R_peek fM xt).1)) := by
  refine ofI (by decide) (Nat.le_of_ble_eq_true rfl) ?_
  intro p e s m below meth c ls S hr hlocks hK hN hP hl
  have hx := S.1
  have hb := S.2.1
  have hS : va_S A s.heap s.heap [] := va_S.rf
  have hl : lv_has ls 2 [(0, .ref (xa 0)), (1, .int xt)] := hl
  refine lv_iload_n hx hb d_R_peek_0 rfl (lv_at hl 1 rfl) ?_
  refine lv_iconst (v := (0 : Int32)) hx hb d_R_peek_1 (by decide) ?_
  refine lv_sipush (v := (511 : Int32)) hx hb d_R_peek_2 (by decide) ?_
  refine c_pS [] S (c_R_outside l _ _ _ _ _ _ _ _ _ _ _ _ _ _ _ _ xt (0 : Int32) (511 : Int32)) mf_R_outside ml_R_43 hK hN hP ⟨rfl, rfl, Nat.le_of_ble_eq_true rfl, Nat.le_of_ble_eq_true rfl⟩ rfl hl.1 rfl (Nat.le_of_ble_eq_true rfl) d_R_peek_5 ⟨Nat.zero_le _, Nat.zero_le _⟩ ?_
  refine zb_eq (tgt := 17) hx hb d_R_peek_8 rfl (fun h_8 => ?_) (fun h_8 => ?_)
  · -- 8: taken
    have h0 : vp_in xt 512 := ou_in h_8 (by decide) (by decide)
    refine lv_aload_n hx hb d_R_peek_17 rfl (lv_at hl 0 rfl) ?_
    refine lv_iconst (v := (0 : Int32)) hx hb d_R_peek_18 (by decide) ?_
    refine r_put_th S hK hP (rW_D hD) hS fl_R_39 d_R_peek_19 (fun H locs hP hS => ?_)
    refine lv_aload_n hx hb d_R_peek_22 rfl (lv_at hl 0 rfl) ?_
    refine r_get S hK hP 1 (by decide) fl_R_7 rfl d_R_peek_23 ?_
    refine lv_iload_n hx hb d_R_peek_26 rfl (lv_at hl 1 rfl) ?_
    refine r_ald_mem S hK hP (by first | assumption | exact and7_in _) d_R_peek_27 ?_
    have hF : f_R_peek fM xt = (fM xt.toNatClampNeg, (0 : Int32)) := (if_neg (bn_f h_8)).trans (rfl)
    exact e_wi S hr hlocks hP hS (congrArg (fun z => z.1) hF.symm) (congrArg (fun z => rW q xa z.2 ca st co ra rb rc im hf rz fM gT cK) hF.symm) d_R_peek_28
  · -- 8: not taken
    refine lv_aload_n hx hb d_R_peek_11 rfl (lv_at hl 0 rfl) ?_
    refine lv_iconst (v := (1 : Int32)) hx hb d_R_peek_12 (by decide) ?_
    refine c_iV [] S (c_R_refuse l _ _ _ _ _ _ _ _ _ _ _ _ _ _ _ _ A (rW_D hD) (1 : Int32)) mf_R_refuse ml_R_180 hK hN hP hS 0 3 rfl rfl ⟨rfl, rfl, Nat.le_of_ble_eq_true rfl, Nat.le_of_ble_eq_true rfl⟩ rfl hl.1 rfl (Nat.le_of_ble_eq_true rfl) d_R_peek_13 ⟨Nat.zero_le _, Nat.zero_le _⟩ (fun H locs hP hS => ?_)
    have hF : f_R_peek fM xt = ((f_R_refuse (1 : Int32)).1, (f_R_refuse (1 : Int32)).2) := (if_pos h_8).trans (rfl)
    exact e_wi S hr hlocks hP hS (congrArg (fun z => z.1) hF.symm) (congrArg (fun z => rW q xa z.2 ca st co ra rb rc im hf rz fM gT cK) hF.symm) d_R_peek_16
def f_R_tagged (gT : Nat → Bool) (pl : Int32) : Bool × Int32 :=
  (if (f_R_outside pl (0 : Int32) (63 : Int32)) = true then false else (if (gT pl.toNatClampNeg) = true then true else false), (0 : Int32))
set_option maxHeartbeats 4000000 in
set_option maxRecDepth 100000 in
theorem c_R_tagged (l : Launch) (D : va_G) (q : Nat → ClassId) (xa : Nat → Nat) (th : Int32) (ca : Int32) (st : Int32) (co : Int32) (ra : Int32) (rb : Int32) (rc : Int32) (im : Int32) (hf : Int32) (rz : Bool) (fM : Nat → Int32) (gT : Nat → Bool) (cK : Nat → Cp) (A : Nat → Prop) (hD : va_D A (rW q xa th ca st co ra rb rc im hf rz fM gT cK)) (pl : Int32) : WMi l y_R_tagged b_R_tagged 2 (some .boolean) ({ frames := 1, cells := 0, slots := 0, locals := 22 }) [.ref (xa 0), .int pl] D (tyR q) (rW q xa th ca st co ra rb rc im hf rz fM gT cK) (rW q xa ((f_R_tagged gT pl).2) ca st co ra rb rc im hf rz fM gT cK) A (b2i ((f_R_tagged gT pl).1)) := by
  refine ofI (by decide) (Nat.le_of_ble_eq_true rfl) ?_
  intro p e s m below meth c ls S hr hlocks hK hN hP hl
  have hx := S.1
  have hb := S.2.1
  have hS : va_S A s.heap s.heap [] := va_S.rf
  have hl : lv_has ls 2 [(0, .ref (xa 0)), (1, .int pl)] := hl
  refine lv_aload_n hx hb d_R_tagged_0 rfl (lv_at hl 0 rfl) ?_
  refine lv_iconst (v := (0 : Int32)) hx hb d_R_tagged_1 (by decide) ?_
  refine r_put_th S hK hP (rW_D hD) hS fl_R_39 d_R_tagged_2 (fun H locs hP hS => ?_)
  refine lv_iload_n hx hb d_R_tagged_5 rfl (lv_at hl 1 rfl) ?_
  refine lv_iconst (v := (0 : Int32)) hx hb d_R_tagged_6 (by decide) ?_
  refine lv_bipush (v := (63 : Int32)) hx hb d_R_tagged_7 (by decide) ?_
  refine c_pS [] S (c_R_outside l _ _ _ _ _ _ _ _ _ _ _ _ _ _ _ _ pl (0 : Int32) (63 : Int32)) mf_R_outside ml_R_43 hK hN hP ⟨rfl, rfl, Nat.le_of_ble_eq_true rfl, Nat.le_of_ble_eq_true rfl⟩ rfl hl.1 rfl (Nat.le_of_ble_eq_true rfl) d_R_tagged_9 ⟨Nat.zero_le _, Nat.zero_le _⟩ ?_
  refine jn 29 ls [] (b2i (if (f_R_outside pl (0 : Int32) (63 : Int32)) = true then false else (if (gT pl.toNatClampNeg) = true then true else false))) ?_ (fun k_29 => ?_)
  · -- from 29 on
    have hF : f_R_tagged gT pl = (if (f_R_outside pl (0 : Int32) (63 : Int32)) = true then false else (if (gT pl.toNatClampNeg) = true then true else false), (0 : Int32)) := rfl
    exact e_wz (z := if (f_R_outside pl (0 : Int32) (63 : Int32)) = true then false else (if (gT pl.toNatClampNeg) = true then true else false)) S hr hlocks hP hS (congrArg (fun z => b2i z.1) hF.symm) (congrArg (fun z => rW q xa z.2 ca st co ra rb rc im hf rz fM gT cK) hF.symm) d_R_tagged_29
  · -- to 29
    refine zb_ne (tgt := 28) hx hb d_R_tagged_12 rfl (fun h_12 => ?_) (fun h_12 => ?_)
    · -- 12: taken
      refine lv_iconst (v := (0 : Int32)) hx hb d_R_tagged_28 (by decide) ?_
      exact k_29 _ (congrArg b2i ((if_pos h_12).trans (rfl) : (if (f_R_outside pl (0 : Int32) (63 : Int32)) = true then false else (if (gT pl.toNatClampNeg) = true then true else false)) = false).symm)
    · -- 12: not taken
      have h0 : vp_in pl 64 := ou_in h_12 (by decide) (by decide)
      refine lv_aload_n hx hb d_R_tagged_15 rfl (lv_at hl 0 rfl) ?_
      refine r_get S hK hP 2 (by decide) fl_R_13 rfl d_R_tagged_16 ?_
      refine lv_iload_n hx hb d_R_tagged_19 rfl (lv_at hl 1 rfl) ?_
      refine r_ald_tag S hK hP (by first | assumption | exact and7_in _) d_R_tagged_20 ?_
      refine zb_eq (tgt := 28) hx hb d_R_tagged_21 rfl (fun h_21 => ?_) (fun h_21 => ?_)
      · -- 21: taken
        refine lv_iconst (v := (0 : Int32)) hx hb d_R_tagged_28 (by decide) ?_
        exact k_29 _ (congrArg b2i ((if_neg (bn_f h_12)).trans ((if_neg (bn_f h_21)).trans (rfl)) : (if (f_R_outside pl (0 : Int32) (63 : Int32)) = true then false else (if (gT pl.toNatClampNeg) = true then true else false)) = false).symm)
      · -- 21: not taken
        refine lv_iconst (v := (1 : Int32)) hx hb d_R_tagged_24 (by decide) ?_
        refine lv_goto (tgt := 29) hx hb d_R_tagged_25 rfl ?_
        exact k_29 _ (congrArg b2i ((if_neg (bn_f h_12)).trans ((if_pos h_21).trans (rfl)) : (if (f_R_outside pl (0 : Int32) (63 : Int32)) = true then false else (if (gT pl.toNatClampNeg) = true then true else false)) = true).symm)
