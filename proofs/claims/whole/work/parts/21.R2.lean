def f_R_forBounds (co : Int32) (rb : Int32) (rc : Int32) (cK : Nat → Cp) : Int32 :=
  if (f_R_usable cK rb) ≤ (0 : Int32) then (if (k_a (cK rc.toNatClampNeg)) < (0 : Int32) then (4 : Int32)
    else if (k_a (cK rb.toNatClampNeg)) < (k_b (cK rb.toNatClampNeg)) then (4 : Int32)
    else if (k_t (cK rb.toNatClampNeg)) < (k_a (cK rb.toNatClampNeg)) then (4 : Int32)
    else if (k_a (cK rc.toNatClampNeg)) ≤ ((k_t (cK rb.toNatClampNeg)) - (k_a (cK rb.toNatClampNeg))) then (if (f_R_exact (k_a (cK rb.toNatClampNeg)) ((k_a (cK rb.toNatClampNeg)) + (k_a (cK rc.toNatClampNeg)))) = true then (0 : Int32)
      else if (f_R_down (k_a (cK rb.toNatClampNeg))) < (k_b (cK rb.toNatClampNeg)) then (4 : Int32)
      else if (f_R_up ((k_a (cK rb.toNatClampNeg)) + (k_a (cK rc.toNatClampNeg)))) ≤ (k_t (cK rb.toNatClampNeg)) then (if co = (11 : Int32) then (6 : Int32) else (0 : Int32))
      else (4 : Int32))
    else (4 : Int32))
  else (f_R_usable cK rb)
set_option maxHeartbeats 4000000 in
set_option maxRecDepth 100000 in
theorem c_R_forBounds (l : Launch) (D : va_G) (q : Nat → ClassId) (xa : Nat → Nat) (th : Int32) (ca : Int32) (st : Int32) (co : Int32) (ra : Int32) (rb : Int32) (rc : Int32) (im : Int32) (hf : Int32) (rz : Bool) (fM : Nat → Int32) (gT : Nat → Bool) (cK : Nat → Cp) (hrb : vp_in rb 12) (hrc : vp_in rc 12) : PMi l y_R_forBounds b_R_forBounds 4 (some .int) ({ frames := 1, cells := 0, slots := 0, locals := 22 }) [.ref (xa 0)] D (tyR q) (rW q xa th ca st co ra rb rc im hf rz fM gT cK) ((f_R_forBounds co rb rc cK)) := by
  refine ofP (by decide) (Nat.le_of_ble_eq_true rfl) ?_
  intro p e s m below meth c ls S hr hlocks hK hN hP hl
  have hx := S.1
  have hb := S.2.1
  have hl : lv_has ls 4 [(0, .ref (xa 0))] := hl
  refine lv_aload_n hx hb d_R_forBounds_0 rfl (lv_at hl 0 rfl) ?_
  refine lv_aload_n hx hb d_R_forBounds_1 rfl (lv_at hl 0 rfl) ?_
  refine r_get S hK hP 13 (by decide) fl_R_57 rfl d_R_forBounds_2 ?_
  refine c_pV [] S (c_R_usable l _ _ _ _ _ _ _ _ _ _ _ _ _ _ _ _ rb (by first | assumption | exact in_k rfl | decide)) mf_R_usable ml_R_47 hK hN hP 0 3 rfl rfl ⟨rfl, rfl, Nat.le_of_ble_eq_true rfl, Nat.le_of_ble_eq_true rfl⟩ rfl hl.1 rfl (Nat.le_of_ble_eq_true rfl) d_R_forBounds_5 ⟨Nat.zero_le _, Nat.zero_le _⟩ ?_
  refine lv_istore_n (lv' := [(1, .int _), (0, .ref _)]) hx hb d_R_forBounds_8 rfl hl (by decide) rfl (fun ls hl => ?_)
  refine lv_iload_n hx hb d_R_forBounds_9 rfl (lv_at hl 0 rfl) ?_
  refine lv_if_le (tgt := 15) hx hb d_R_forBounds_10 rfl (fun h_10 => ?_) (fun h_10 => ?_)
  · -- 10: taken
    refine lv_aload_n hx hb d_R_forBounds_15 rfl (lv_at hl 1 rfl) ?_
    refine r_get S hK hP 6 (by decide) fl_R_26 rfl d_R_forBounds_16 ?_
    refine lv_aload_n hx hb d_R_forBounds_19 rfl (lv_at hl 1 rfl) ?_
    refine r_get S hK hP 13 (by decide) fl_R_57 rfl d_R_forBounds_20 ?_
    refine r_ald_a S hK hP (by first | assumption | exact and7_in _) d_R_forBounds_23 ?_
    refine lv_istore_n (lv' := [(2, .int _), (1, .int _), (0, .ref _)]) hx hb d_R_forBounds_24 rfl hl (by decide) rfl (fun ls hl => ?_)
    refine lv_aload_n hx hb d_R_forBounds_25 rfl (lv_at hl 2 rfl) ?_
    refine r_get S hK hP 6 (by decide) fl_R_26 rfl d_R_forBounds_26 ?_
    refine lv_aload_n hx hb d_R_forBounds_29 rfl (lv_at hl 2 rfl) ?_
    refine r_get S hK hP 14 (by decide) fl_R_60 rfl d_R_forBounds_30 ?_
    refine r_ald_a S hK hP (by first | assumption | exact and7_in _) d_R_forBounds_33 ?_
    refine lv_istore_n (lv' := [(3, .int _), (2, .int _), (1, .int _), (0, .ref _)]) hx hb d_R_forBounds_34 rfl hl (by decide) rfl (fun ls hl => ?_)
    refine lv_iload_n hx hb d_R_forBounds_35 rfl (lv_at hl 0 rfl) ?_
    refine lv_if_lt (tgt := 80) hx hb d_R_forBounds_36 rfl (fun h_36 => ?_) (fun h_36 => ?_)
    · -- 36: taken
      refine lv_iconst (v := (4 : Int32)) hx hb d_R_forBounds_80 (by decide) ?_
      exact e_pi S hr hlocks ((if_pos h_10).trans ((if_pos h_36).trans (rfl)) : f_R_forBounds co rb rc cK = (4 : Int32)).symm d_R_forBounds_81
    · -- 36: not taken
      refine lv_iload_n hx hb d_R_forBounds_39 rfl (lv_at hl 1 rfl) ?_
      refine lv_aload_n hx hb d_R_forBounds_40 rfl (lv_at hl 3 rfl) ?_
      refine r_get S hK hP 4 (by decide) fl_R_20 rfl d_R_forBounds_41 ?_
      refine lv_aload_n hx hb d_R_forBounds_44 rfl (lv_at hl 3 rfl) ?_
      refine r_get S hK hP 13 (by decide) fl_R_57 rfl d_R_forBounds_45 ?_
      refine r_ald_b S hK hP (by first | assumption | exact and7_in _) d_R_forBounds_48 ?_
      refine lv_icmp_lt (tgt := 80) hx hb d_R_forBounds_49 rfl (fun h_49 => ?_) (fun h_49 => ?_)
      · -- 49: taken
        refine lv_iconst (v := (4 : Int32)) hx hb d_R_forBounds_80 (by decide) ?_
        exact e_pi S hr hlocks ((if_pos h_10).trans ((if_neg h_36).trans ((if_pos h_49).trans (rfl))) : f_R_forBounds co rb rc cK = (4 : Int32)).symm d_R_forBounds_81
      · -- 49: not taken
        refine lv_iload_n hx hb d_R_forBounds_52 rfl (lv_at hl 1 rfl) ?_
        refine lv_aload_n hx hb d_R_forBounds_53 rfl (lv_at hl 3 rfl) ?_
        refine r_get S hK hP 5 (by decide) fl_R_23 rfl d_R_forBounds_54 ?_
        refine lv_aload_n hx hb d_R_forBounds_57 rfl (lv_at hl 3 rfl) ?_
        refine r_get S hK hP 13 (by decide) fl_R_57 rfl d_R_forBounds_58 ?_
        refine r_ald_t S hK hP (by first | assumption | exact and7_in _) d_R_forBounds_61 ?_
        refine lv_icmp_gt (tgt := 80) hx hb d_R_forBounds_62 rfl (fun h_62 => ?_) (fun h_62 => ?_)
        · -- 62: taken
          refine lv_iconst (v := (4 : Int32)) hx hb d_R_forBounds_80 (by decide) ?_
          exact e_pi S hr hlocks ((if_pos h_10).trans ((if_neg h_36).trans ((if_neg h_49).trans ((if_pos h_62).trans (rfl)))) : f_R_forBounds co rb rc cK = (4 : Int32)).symm d_R_forBounds_81
        · -- 62: not taken
          refine lv_iload_n hx hb d_R_forBounds_65 rfl (lv_at hl 0 rfl) ?_
          refine lv_aload_n hx hb d_R_forBounds_66 rfl (lv_at hl 3 rfl) ?_
          refine r_get S hK hP 5 (by decide) fl_R_23 rfl d_R_forBounds_67 ?_
          refine lv_aload_n hx hb d_R_forBounds_70 rfl (lv_at hl 3 rfl) ?_
          refine r_get S hK hP 13 (by decide) fl_R_57 rfl d_R_forBounds_71 ?_
          refine r_ald_t S hK hP (by first | assumption | exact and7_in _) d_R_forBounds_74 ?_
          refine lv_iload_n hx hb d_R_forBounds_75 rfl (lv_at hl 1 rfl) ?_
          refine lv_isub hx hb d_R_forBounds_76 ?_
          refine lv_icmp_le (tgt := 82) hx hb d_R_forBounds_77 rfl (fun h_77 => ?_) (fun h_77 => ?_)
          · -- 77: taken
            refine lv_aload_n hx hb d_R_forBounds_82 rfl (lv_at hl 3 rfl) ?_
            refine lv_iload_n hx hb d_R_forBounds_83 rfl (lv_at hl 1 rfl) ?_
            refine lv_iload_n hx hb d_R_forBounds_84 rfl (lv_at hl 1 rfl) ?_
            refine lv_iload_n hx hb d_R_forBounds_85 rfl (lv_at hl 0 rfl) ?_
            refine lv_iadd hx hb d_R_forBounds_86 ?_
            refine c_pV [] S (c_R_exact l _ _ _ _ _ _ _ _ _ _ _ _ _ _ _ _ (k_a (cK rb.toNatClampNeg)) ((k_a (cK rb.toNatClampNeg)) + (k_a (cK rc.toNatClampNeg)))) mf_R_exact ml_R_63 hK hN hP 0 3 rfl rfl ⟨rfl, rfl, Nat.le_of_ble_eq_true rfl, Nat.le_of_ble_eq_true rfl⟩ rfl hl.1 rfl (Nat.le_of_ble_eq_true rfl) d_R_forBounds_87 ⟨Nat.zero_le _, Nat.zero_le _⟩ ?_
            refine zb_eq (tgt := 95) hx hb d_R_forBounds_90 rfl (fun h_90 => ?_) (fun h_90 => ?_)
            · -- 90: taken
              refine lv_aload_n hx hb d_R_forBounds_95 rfl (lv_at hl 3 rfl) ?_
              refine lv_iload_n hx hb d_R_forBounds_96 rfl (lv_at hl 1 rfl) ?_
              refine c_pV [] S (c_R_down l _ _ _ _ _ _ _ _ _ _ _ _ _ _ _ _ (k_a (cK rb.toNatClampNeg))) mf_R_down ml_R_66 hK hN hP 0 3 rfl rfl ⟨rfl, rfl, Nat.le_of_ble_eq_true rfl, Nat.le_of_ble_eq_true rfl⟩ rfl hl.1 rfl (Nat.le_of_ble_eq_true rfl) d_R_forBounds_97 ⟨Nat.zero_le _, Nat.zero_le _⟩ ?_
              refine lv_aload_n hx hb d_R_forBounds_100 rfl (lv_at hl 3 rfl) ?_
              refine r_get S hK hP 4 (by decide) fl_R_20 rfl d_R_forBounds_101 ?_
              refine lv_aload_n hx hb d_R_forBounds_104 rfl (lv_at hl 3 rfl) ?_
              refine r_get S hK hP 13 (by decide) fl_R_57 rfl d_R_forBounds_105 ?_
              refine r_ald_b S hK hP (by first | assumption | exact and7_in _) d_R_forBounds_108 ?_
              refine lv_icmp_lt (tgt := 131) hx hb d_R_forBounds_109 rfl (fun h_109 => ?_) (fun h_109 => ?_)
              · -- 109: taken
                refine lv_iconst (v := (4 : Int32)) hx hb d_R_forBounds_131 (by decide) ?_
                exact e_pi S hr hlocks ((if_pos h_10).trans ((if_neg h_36).trans ((if_neg h_49).trans ((if_neg h_62).trans ((if_pos h_77).trans ((if_neg (bn_f h_90)).trans ((if_pos h_109).trans (rfl))))))) : f_R_forBounds co rb rc cK = (4 : Int32)).symm d_R_forBounds_132
              · -- 109: not taken
                refine lv_aload_n hx hb d_R_forBounds_112 rfl (lv_at hl 3 rfl) ?_
                refine lv_iload_n hx hb d_R_forBounds_113 rfl (lv_at hl 1 rfl) ?_
                refine lv_iload_n hx hb d_R_forBounds_114 rfl (lv_at hl 0 rfl) ?_
                refine lv_iadd hx hb d_R_forBounds_115 ?_
                refine c_pV [] S (c_R_up l _ _ _ _ _ _ _ _ _ _ _ _ _ _ _ _ ((k_a (cK rb.toNatClampNeg)) + (k_a (cK rc.toNatClampNeg)))) mf_R_up ml_R_69 hK hN hP 0 3 rfl rfl ⟨rfl, rfl, Nat.le_of_ble_eq_true rfl, Nat.le_of_ble_eq_true rfl⟩ rfl hl.1 rfl (Nat.le_of_ble_eq_true rfl) d_R_forBounds_116 ⟨Nat.zero_le _, Nat.zero_le _⟩ ?_
                refine lv_aload_n hx hb d_R_forBounds_119 rfl (lv_at hl 3 rfl) ?_
                refine r_get S hK hP 5 (by decide) fl_R_23 rfl d_R_forBounds_120 ?_
                refine lv_aload_n hx hb d_R_forBounds_123 rfl (lv_at hl 3 rfl) ?_
                refine r_get S hK hP 13 (by decide) fl_R_57 rfl d_R_forBounds_124 ?_
                refine r_ald_t S hK hP (by first | assumption | exact and7_in _) d_R_forBounds_127 ?_
                refine lv_icmp_le (tgt := 133) hx hb d_R_forBounds_128 rfl (fun h_128 => ?_) (fun h_128 => ?_)
                · -- 128: taken
                  refine lv_aload_n hx hb d_R_forBounds_133 rfl (lv_at hl 3 rfl) ?_
                  refine r_get S hK hP 11 (by decide) fl_R_72 rfl d_R_forBounds_134 ?_
                  refine lv_bipush (v := (11 : Int32)) hx hb d_R_forBounds_137 (by decide) ?_
                  refine jn 148 ls [] (if co = (11 : Int32) then (6 : Int32) else (0 : Int32)) ?_ (fun k_148 => ?_)
                  · -- from 148 on
                    exact e_pi S hr hlocks ((if_pos h_10).trans ((if_neg h_36).trans ((if_neg h_49).trans ((if_neg h_62).trans ((if_pos h_77).trans ((if_neg (bn_f h_90)).trans ((if_neg h_109).trans ((if_pos h_128).trans (rfl)))))))) : f_R_forBounds co rb rc cK = if co = (11 : Int32) then (6 : Int32) else (0 : Int32)).symm d_R_forBounds_148
                  · -- to 148
                    refine lv_icmp_ne (tgt := 147) hx hb d_R_forBounds_139 rfl (fun h_139 => ?_) (fun h_139 => ?_)
                    · -- 139: taken
                      refine lv_iconst (v := (0 : Int32)) hx hb d_R_forBounds_147 (by decide) ?_
                      exact k_148 _ ((if_neg h_139).trans (rfl) : (if co = (11 : Int32) then (6 : Int32) else (0 : Int32)) = (0 : Int32)).symm
                    · -- 139: not taken
                      refine lv_bipush (v := (6 : Int32)) hx hb d_R_forBounds_142 (by decide) ?_
                      refine lv_goto (tgt := 148) hx hb d_R_forBounds_144 rfl ?_
                      exact k_148 _ ((if_pos h_139).trans (rfl) : (if co = (11 : Int32) then (6 : Int32) else (0 : Int32)) = (6 : Int32)).symm
                · -- 128: not taken
                  refine lv_iconst (v := (4 : Int32)) hx hb d_R_forBounds_131 (by decide) ?_
                  exact e_pi S hr hlocks ((if_pos h_10).trans ((if_neg h_36).trans ((if_neg h_49).trans ((if_neg h_62).trans ((if_pos h_77).trans ((if_neg (bn_f h_90)).trans ((if_neg h_109).trans ((if_neg h_128).trans (rfl)))))))) : f_R_forBounds co rb rc cK = (4 : Int32)).symm d_R_forBounds_132
            · -- 90: not taken
              refine lv_iconst (v := (0 : Int32)) hx hb d_R_forBounds_93 (by decide) ?_
              exact e_pi S hr hlocks ((if_pos h_10).trans ((if_neg h_36).trans ((if_neg h_49).trans ((if_neg h_62).trans ((if_pos h_77).trans ((if_pos h_90).trans (rfl)))))) : f_R_forBounds co rb rc cK = (0 : Int32)).symm d_R_forBounds_94
          · -- 77: not taken
            refine lv_iconst (v := (4 : Int32)) hx hb d_R_forBounds_80 (by decide) ?_
            exact e_pi S hr hlocks ((if_pos h_10).trans ((if_neg h_36).trans ((if_neg h_49).trans ((if_neg h_62).trans ((if_neg h_77).trans (rfl))))) : f_R_forBounds co rb rc cK = (4 : Int32)).symm d_R_forBounds_81
  · -- 10: not taken
    refine lv_iload_n hx hb d_R_forBounds_13 rfl (lv_at hl 0 rfl) ?_
    exact e_pi S hr hlocks ((if_neg h_10).trans (rfl) : f_R_forBounds co rb rc cK = (f_R_usable cK rb)).symm d_R_forBounds_14
def f_R_points (cK : Nat → Cp) (r0 : Int32) : Bool :=
  if (k_a (cK r0.toNatClampNeg)) < (k_b (cK r0.toNatClampNeg)) then false else (if (k_t (cK r0.toNatClampNeg)) ≤ (k_a (cK r0.toNatClampNeg)) then false else true)
set_option maxHeartbeats 4000000 in
set_option maxRecDepth 100000 in
theorem c_R_points (l : Launch) (D : va_G) (q : Nat → ClassId) (xa : Nat → Nat) (th : Int32) (ca : Int32) (st : Int32) (co : Int32) (ra : Int32) (rb : Int32) (rc : Int32) (im : Int32) (hf : Int32) (rz : Bool) (fM : Nat → Int32) (gT : Nat → Bool) (cK : Nat → Cp) (r0 : Int32) (hr0 : vp_in r0 12) : PMi l y_R_points b_R_points 2 (some .boolean) ({ frames := 0, cells := 0, slots := 0, locals := 0 }) [.ref (xa 0), .int r0] D (tyR q) (rW q xa th ca st co ra rb rc im hf rz fM gT cK) (b2i (f_R_points cK r0)) := by
  refine ofP (by decide) (Nat.le_of_ble_eq_true rfl) ?_
  intro p e s m below meth c ls S hr hlocks hK hN hP hl
  have hx := S.1
  have hb := S.2.1
  have hl : lv_has ls 2 [(0, .ref (xa 0)), (1, .int r0)] := hl
  refine lv_aload_n hx hb d_R_points_0 rfl (lv_at hl 0 rfl) ?_
  refine r_get S hK hP 6 (by decide) fl_R_26 rfl d_R_points_1 ?_
  refine lv_iload_n hx hb d_R_points_4 rfl (lv_at hl 1 rfl) ?_
  refine r_ald_a S hK hP (by first | assumption | exact and7_in _) d_R_points_5 ?_
  refine lv_aload_n hx hb d_R_points_6 rfl (lv_at hl 0 rfl) ?_
  refine r_get S hK hP 4 (by decide) fl_R_20 rfl d_R_points_7 ?_
  refine lv_iload_n hx hb d_R_points_10 rfl (lv_at hl 1 rfl) ?_
  refine r_ald_b S hK hP (by first | assumption | exact and7_in _) d_R_points_11 ?_
  refine jn 35 ls [] (b2i (if (k_a (cK r0.toNatClampNeg)) < (k_b (cK r0.toNatClampNeg)) then false else (if (k_t (cK r0.toNatClampNeg)) ≤ (k_a (cK r0.toNatClampNeg)) then false else true))) ?_ (fun k_35 => ?_)
  · -- from 35 on
    exact e_pz (z := if (k_a (cK r0.toNatClampNeg)) < (k_b (cK r0.toNatClampNeg)) then false else (if (k_t (cK r0.toNatClampNeg)) ≤ (k_a (cK r0.toNatClampNeg)) then false else true)) S hr hlocks (congrArg b2i (rfl : f_R_points cK r0 = if (k_a (cK r0.toNatClampNeg)) < (k_b (cK r0.toNatClampNeg)) then false else (if (k_t (cK r0.toNatClampNeg)) ≤ (k_a (cK r0.toNatClampNeg)) then false else true)).symm) d_R_points_35
  · -- to 35
    refine lv_icmp_lt (tgt := 34) hx hb d_R_points_12 rfl (fun h_12 => ?_) (fun h_12 => ?_)
    · -- 12: taken
      refine lv_iconst (v := (0 : Int32)) hx hb d_R_points_34 (by decide) ?_
      exact k_35 _ (congrArg b2i ((if_pos h_12).trans (rfl) : (if (k_a (cK r0.toNatClampNeg)) < (k_b (cK r0.toNatClampNeg)) then false else (if (k_t (cK r0.toNatClampNeg)) ≤ (k_a (cK r0.toNatClampNeg)) then false else true)) = false).symm)
    · -- 12: not taken
      refine lv_aload_n hx hb d_R_points_15 rfl (lv_at hl 0 rfl) ?_
      refine r_get S hK hP 6 (by decide) fl_R_26 rfl d_R_points_16 ?_
      refine lv_iload_n hx hb d_R_points_19 rfl (lv_at hl 1 rfl) ?_
      refine r_ald_a S hK hP (by first | assumption | exact and7_in _) d_R_points_20 ?_
      refine lv_aload_n hx hb d_R_points_21 rfl (lv_at hl 0 rfl) ?_
      refine r_get S hK hP 5 (by decide) fl_R_23 rfl d_R_points_22 ?_
      refine lv_iload_n hx hb d_R_points_25 rfl (lv_at hl 1 rfl) ?_
      refine r_ald_t S hK hP (by first | assumption | exact and7_in _) d_R_points_26 ?_
      refine lv_icmp_ge (tgt := 34) hx hb d_R_points_27 rfl (fun h_27 => ?_) (fun h_27 => ?_)
      · -- 27: taken
        refine lv_iconst (v := (0 : Int32)) hx hb d_R_points_34 (by decide) ?_
        exact k_35 _ (congrArg b2i ((if_neg h_12).trans ((if_pos h_27).trans (rfl)) : (if (k_a (cK r0.toNatClampNeg)) < (k_b (cK r0.toNatClampNeg)) then false else (if (k_t (cK r0.toNatClampNeg)) ≤ (k_a (cK r0.toNatClampNeg)) then false else true)) = false).symm)
      · -- 27: not taken
        refine lv_iconst (v := (1 : Int32)) hx hb d_R_points_30 (by decide) ?_
        refine lv_goto (tgt := 35) hx hb d_R_points_31 rfl ?_
        exact k_35 _ (congrArg b2i ((if_neg h_12).trans ((if_neg h_27).trans (rfl)) : (if (k_a (cK r0.toNatClampNeg)) < (k_b (cK r0.toNatClampNeg)) then false else (if (k_t (cK r0.toNatClampNeg)) ≤ (k_a (cK r0.toNatClampNeg)) then false else true)) = true).symm)
def f_R_forSeal (rb : Int32) (rc : Int32) (cK : Nat → Cp) : Int32 :=
  if (k_v (cK rb.toNatClampNeg)) = true then (if (k_v (cK rc.toNatClampNeg)) = true then (if (0 : Int32) < (k_y (cK rb.toNatClampNeg)) then (2 : Int32)
      else if (k_y (cK rc.toNatClampNeg)) ≤ (0 : Int32) then (if (f_R_may cK rc (32 : Int32)) = true then (if (f_R_points cK rc) = true then (if (f_R_outside (k_a (cK rc.toNatClampNeg)) (2 : Int32) (15 : Int32)) = true then (7 : Int32) else (0 : Int32)) else (4 : Int32))
        else (3 : Int32))
      else (2 : Int32))
    else (1 : Int32))
  else (1 : Int32)
set_option maxHeartbeats 4000000 in
set_option maxRecDepth 100000 in
theorem c_R_forSeal (l : Launch) (D : va_G) (q : Nat → ClassId) (xa : Nat → Nat) (th : Int32) (ca : Int32) (st : Int32) (co : Int32) (ra : Int32) (rb : Int32) (rc : Int32) (im : Int32) (hf : Int32) (rz : Bool) (fM : Nat → Int32) (gT : Nat → Bool) (cK : Nat → Cp) (hrb : vp_in rb 12) (hrc : vp_in rc 12) : PMi l y_R_forSeal b_R_forSeal 1 (some .int) ({ frames := 1, cells := 0, slots := 0, locals := 22 }) [.ref (xa 0)] D (tyR q) (rW q xa th ca st co ra rb rc im hf rz fM gT cK) ((f_R_forSeal rb rc cK)) := by
  refine ofP (by decide) (Nat.le_of_ble_eq_true rfl) ?_
  intro p e s m below meth c ls S hr hlocks hK hN hP hl
  have hx := S.1
  have hb := S.2.1
  have hl : lv_has ls 1 [(0, .ref (xa 0))] := hl
  refine lv_aload_n hx hb d_R_forSeal_0 rfl (lv_at hl 0 rfl) ?_
  refine r_get S hK hP 3 (by decide) fl_R_17 rfl d_R_forSeal_1 ?_
  refine lv_aload_n hx hb d_R_forSeal_4 rfl (lv_at hl 0 rfl) ?_
  refine r_get S hK hP 13 (by decide) fl_R_57 rfl d_R_forSeal_5 ?_
  refine r_ald_v S hK hP (by first | assumption | exact and7_in _) d_R_forSeal_8 ?_
  refine zb_eq (tgt := 24) hx hb d_R_forSeal_9 rfl (fun h_9 => ?_) (fun h_9 => ?_)
  · -- 9: taken
    refine lv_iconst (v := (1 : Int32)) hx hb d_R_forSeal_24 (by decide) ?_
    exact e_pi S hr hlocks ((if_neg (bn_f h_9)).trans (rfl) : f_R_forSeal rb rc cK = (1 : Int32)).symm d_R_forSeal_25
  · -- 9: not taken
    refine lv_aload_n hx hb d_R_forSeal_12 rfl (lv_at hl 0 rfl) ?_
    refine r_get S hK hP 3 (by decide) fl_R_17 rfl d_R_forSeal_13 ?_
    refine lv_aload_n hx hb d_R_forSeal_16 rfl (lv_at hl 0 rfl) ?_
    refine r_get S hK hP 14 (by decide) fl_R_60 rfl d_R_forSeal_17 ?_
    refine r_ald_v S hK hP (by first | assumption | exact and7_in _) d_R_forSeal_20 ?_
    refine zb_ne (tgt := 26) hx hb d_R_forSeal_21 rfl (fun h_21 => ?_) (fun h_21 => ?_)
    · -- 21: taken
      refine lv_aload_n hx hb d_R_forSeal_26 rfl (lv_at hl 0 rfl) ?_
      refine r_get S hK hP 8 (by decide) fl_R_32 rfl d_R_forSeal_27 ?_
      refine lv_aload_n hx hb d_R_forSeal_30 rfl (lv_at hl 0 rfl) ?_
      refine r_get S hK hP 13 (by decide) fl_R_57 rfl d_R_forSeal_31 ?_
      refine r_ald_y S hK hP (by first | assumption | exact and7_in _) d_R_forSeal_34 ?_
      refine lv_if_gt (tgt := 50) hx hb d_R_forSeal_35 rfl (fun h_35 => ?_) (fun h_35 => ?_)
      · -- 35: taken
        refine lv_iconst (v := (2 : Int32)) hx hb d_R_forSeal_50 (by decide) ?_
        exact e_pi S hr hlocks ((if_pos h_9).trans ((if_pos h_21).trans ((if_pos h_35).trans (rfl))) : f_R_forSeal rb rc cK = (2 : Int32)).symm d_R_forSeal_51
      · -- 35: not taken
        refine lv_aload_n hx hb d_R_forSeal_38 rfl (lv_at hl 0 rfl) ?_
        refine r_get S hK hP 8 (by decide) fl_R_32 rfl d_R_forSeal_39 ?_
        refine lv_aload_n hx hb d_R_forSeal_42 rfl (lv_at hl 0 rfl) ?_
        refine r_get S hK hP 14 (by decide) fl_R_60 rfl d_R_forSeal_43 ?_
        refine r_ald_y S hK hP (by first | assumption | exact and7_in _) d_R_forSeal_46 ?_
        refine lv_if_le (tgt := 52) hx hb d_R_forSeal_47 rfl (fun h_47 => ?_) (fun h_47 => ?_)
        · -- 47: taken
          refine lv_aload_n hx hb d_R_forSeal_52 rfl (lv_at hl 0 rfl) ?_
          refine lv_aload_n hx hb d_R_forSeal_53 rfl (lv_at hl 0 rfl) ?_
          refine r_get S hK hP 14 (by decide) fl_R_60 rfl d_R_forSeal_54 ?_
          refine lv_bipush (v := (32 : Int32)) hx hb d_R_forSeal_57 (by decide) ?_
          refine c_pV [] S (c_R_may l _ _ _ _ _ _ _ _ _ _ _ _ _ _ _ _ rc (32 : Int32) (by first | assumption | exact in_k rfl | decide)) mf_R_may ml_R_51 hK hN hP 0 3 rfl rfl ⟨rfl, rfl, Nat.le_of_ble_eq_true rfl, Nat.le_of_ble_eq_true rfl⟩ rfl hl.1 rfl (Nat.le_of_ble_eq_true rfl) d_R_forSeal_59 ⟨Nat.zero_le _, Nat.zero_le _⟩ ?_
          refine zb_ne (tgt := 67) hx hb d_R_forSeal_62 rfl (fun h_62 => ?_) (fun h_62 => ?_)
          · -- 62: taken
            refine lv_aload_n hx hb d_R_forSeal_67 rfl (lv_at hl 0 rfl) ?_
            refine lv_aload_n hx hb d_R_forSeal_68 rfl (lv_at hl 0 rfl) ?_
            refine r_get S hK hP 14 (by decide) fl_R_60 rfl d_R_forSeal_69 ?_
            refine c_pV [] S (c_R_points l _ _ _ _ _ _ _ _ _ _ _ _ _ _ _ _ rc (by first | assumption | exact in_k rfl | decide)) mf_R_points ml_R_75 hK hN hP 0 3 rfl rfl ⟨rfl, rfl, Nat.le_of_ble_eq_true rfl, Nat.le_of_ble_eq_true rfl⟩ rfl hl.1 rfl (Nat.le_of_ble_eq_true rfl) d_R_forSeal_72 ⟨Nat.zero_le _, Nat.zero_le _⟩ ?_
            refine jn 106 ls [] (if (f_R_points cK rc) = true then (if (f_R_outside (k_a (cK rc.toNatClampNeg)) (2 : Int32) (15 : Int32)) = true then (7 : Int32) else (0 : Int32)) else (4 : Int32)) ?_ (fun k_106 => ?_)
            · -- from 106 on
              exact e_pi S hr hlocks ((if_pos h_9).trans ((if_pos h_21).trans ((if_neg h_35).trans ((if_pos h_47).trans ((if_pos h_62).trans (rfl))))) : f_R_forSeal rb rc cK = if (f_R_points cK rc) = true then (if (f_R_outside (k_a (cK rc.toNatClampNeg)) (2 : Int32) (15 : Int32)) = true then (7 : Int32) else (0 : Int32)) else (4 : Int32)).symm d_R_forSeal_106
            · -- to 106
              refine zb_ne (tgt := 82) hx hb d_R_forSeal_75 rfl (fun h_75 => ?_) (fun h_75 => ?_)
              · -- 75: taken
                refine lv_aload_n hx hb d_R_forSeal_82 rfl (lv_at hl 0 rfl) ?_
                refine r_get S hK hP 6 (by decide) fl_R_26 rfl d_R_forSeal_83 ?_
                refine lv_aload_n hx hb d_R_forSeal_86 rfl (lv_at hl 0 rfl) ?_
                refine r_get S hK hP 14 (by decide) fl_R_60 rfl d_R_forSeal_87 ?_
                refine r_ald_a S hK hP (by first | assumption | exact and7_in _) d_R_forSeal_90 ?_
                refine lv_iconst (v := (2 : Int32)) hx hb d_R_forSeal_91 (by decide) ?_
                refine lv_bipush (v := (15 : Int32)) hx hb d_R_forSeal_92 (by decide) ?_
                refine c_pS [] S (c_R_outside l _ _ _ _ _ _ _ _ _ _ _ _ _ _ _ _ (k_a (cK rc.toNatClampNeg)) (2 : Int32) (15 : Int32)) mf_R_outside ml_R_43 hK hN hP ⟨rfl, rfl, Nat.le_of_ble_eq_true rfl, Nat.le_of_ble_eq_true rfl⟩ rfl hl.1 rfl (Nat.le_of_ble_eq_true rfl) d_R_forSeal_94 ⟨Nat.zero_le _, Nat.zero_le _⟩ ?_
                refine zb_eq (tgt := 105) hx hb d_R_forSeal_97 rfl (fun h_97 => ?_) (fun h_97 => ?_)
                · -- 97: taken
                  refine lv_iconst (v := (0 : Int32)) hx hb d_R_forSeal_105 (by decide) ?_
                  exact k_106 _ ((if_pos h_75).trans ((if_neg (bn_f h_97)).trans (rfl)) : (if (f_R_points cK rc) = true then (if (f_R_outside (k_a (cK rc.toNatClampNeg)) (2 : Int32) (15 : Int32)) = true then (7 : Int32) else (0 : Int32)) else (4 : Int32)) = (0 : Int32)).symm
                · -- 97: not taken
                  refine lv_bipush (v := (7 : Int32)) hx hb d_R_forSeal_100 (by decide) ?_
                  refine lv_goto (tgt := 106) hx hb d_R_forSeal_102 rfl ?_
                  exact k_106 _ ((if_pos h_75).trans ((if_pos h_97).trans (rfl)) : (if (f_R_points cK rc) = true then (if (f_R_outside (k_a (cK rc.toNatClampNeg)) (2 : Int32) (15 : Int32)) = true then (7 : Int32) else (0 : Int32)) else (4 : Int32)) = (7 : Int32)).symm
              · -- 75: not taken
                refine lv_iconst (v := (4 : Int32)) hx hb d_R_forSeal_78 (by decide) ?_
                refine lv_goto (tgt := 106) hx hb d_R_forSeal_79 rfl ?_
                exact k_106 _ ((if_neg (bn_f h_75)).trans (rfl) : (if (f_R_points cK rc) = true then (if (f_R_outside (k_a (cK rc.toNatClampNeg)) (2 : Int32) (15 : Int32)) = true then (7 : Int32) else (0 : Int32)) else (4 : Int32)) = (4 : Int32)).symm
          · -- 62: not taken
            refine lv_iconst (v := (3 : Int32)) hx hb d_R_forSeal_65 (by decide) ?_
            exact e_pi S hr hlocks ((if_pos h_9).trans ((if_pos h_21).trans ((if_neg h_35).trans ((if_pos h_47).trans ((if_neg (bn_f h_62)).trans (rfl))))) : f_R_forSeal rb rc cK = (3 : Int32)).symm d_R_forSeal_66
        · -- 47: not taken
          refine lv_iconst (v := (2 : Int32)) hx hb d_R_forSeal_50 (by decide) ?_
          exact e_pi S hr hlocks ((if_pos h_9).trans ((if_pos h_21).trans ((if_neg h_35).trans ((if_neg h_47).trans (rfl)))) : f_R_forSeal rb rc cK = (2 : Int32)).symm d_R_forSeal_51
    · -- 21: not taken
      refine lv_iconst (v := (1 : Int32)) hx hb d_R_forSeal_24 (by decide) ?_
      exact e_pi S hr hlocks ((if_pos h_9).trans ((if_neg (bn_f h_21)).trans (rfl)) : f_R_forSeal rb rc cK = (1 : Int32)).symm d_R_forSeal_25
def f_R_forUnseal (rb : Int32) (rc : Int32) (cK : Nat → Cp) : Int32 :=
  if (k_v (cK rb.toNatClampNeg)) = true then (if (k_v (cK rc.toNatClampNeg)) = true then (if (k_y (cK rb.toNatClampNeg)) < (2 : Int32) then (2 : Int32)
      else if (k_y (cK rc.toNatClampNeg)) ≤ (0 : Int32) then (if (k_a (cK rc.toNatClampNeg)) = (k_y (cK rb.toNatClampNeg)) then (if (f_R_may cK rc (64 : Int32)) = true then (if (f_R_points cK rc) = true then (0 : Int32) else (4 : Int32)) else (3 : Int32))
        else (7 : Int32))
      else (2 : Int32))
    else (1 : Int32))
  else (1 : Int32)
set_option maxHeartbeats 4000000 in
set_option maxRecDepth 100000 in
theorem c_R_forUnseal (l : Launch) (D : va_G) (q : Nat → ClassId) (xa : Nat → Nat) (th : Int32) (ca : Int32) (st : Int32) (co : Int32) (ra : Int32) (rb : Int32) (rc : Int32) (im : Int32) (hf : Int32) (rz : Bool) (fM : Nat → Int32) (gT : Nat → Bool) (cK : Nat → Cp) (hrb : vp_in rb 12) (hrc : vp_in rc 12) : PMi l y_R_forUnseal b_R_forUnseal 1 (some .int) ({ frames := 1, cells := 0, slots := 0, locals := 22 }) [.ref (xa 0)] D (tyR q) (rW q xa th ca st co ra rb rc im hf rz fM gT cK) ((f_R_forUnseal rb rc cK)) := by
  refine ofP (by decide) (Nat.le_of_ble_eq_true rfl) ?_
  intro p e s m below meth c ls S hr hlocks hK hN hP hl
  have hx := S.1
  have hb := S.2.1
  have hl : lv_has ls 1 [(0, .ref (xa 0))] := hl
  refine lv_aload_n hx hb d_R_forUnseal_0 rfl (lv_at hl 0 rfl) ?_
  refine r_get S hK hP 3 (by decide) fl_R_17 rfl d_R_forUnseal_1 ?_
  refine lv_aload_n hx hb d_R_forUnseal_4 rfl (lv_at hl 0 rfl) ?_
  refine r_get S hK hP 13 (by decide) fl_R_57 rfl d_R_forUnseal_5 ?_
  refine r_ald_v S hK hP (by first | assumption | exact and7_in _) d_R_forUnseal_8 ?_
  refine zb_eq (tgt := 24) hx hb d_R_forUnseal_9 rfl (fun h_9 => ?_) (fun h_9 => ?_)
  · -- 9: taken
    refine lv_iconst (v := (1 : Int32)) hx hb d_R_forUnseal_24 (by decide) ?_
    exact e_pi S hr hlocks ((if_neg (bn_f h_9)).trans (rfl) : f_R_forUnseal rb rc cK = (1 : Int32)).symm d_R_forUnseal_25
  · -- 9: not taken
    refine lv_aload_n hx hb d_R_forUnseal_12 rfl (lv_at hl 0 rfl) ?_
    refine r_get S hK hP 3 (by decide) fl_R_17 rfl d_R_forUnseal_13 ?_
    refine lv_aload_n hx hb d_R_forUnseal_16 rfl (lv_at hl 0 rfl) ?_
    refine r_get S hK hP 14 (by decide) fl_R_60 rfl d_R_forUnseal_17 ?_
    refine r_ald_v S hK hP (by first | assumption | exact and7_in _) d_R_forUnseal_20 ?_
    refine zb_ne (tgt := 26) hx hb d_R_forUnseal_21 rfl (fun h_21 => ?_) (fun h_21 => ?_)
    · -- 21: taken
      refine lv_aload_n hx hb d_R_forUnseal_26 rfl (lv_at hl 0 rfl) ?_
      refine r_get S hK hP 8 (by decide) fl_R_32 rfl d_R_forUnseal_27 ?_
      refine lv_aload_n hx hb d_R_forUnseal_30 rfl (lv_at hl 0 rfl) ?_
      refine r_get S hK hP 13 (by decide) fl_R_57 rfl d_R_forUnseal_31 ?_
      refine r_ald_y S hK hP (by first | assumption | exact and7_in _) d_R_forUnseal_34 ?_
      refine lv_iconst (v := (2 : Int32)) hx hb d_R_forUnseal_35 (by decide) ?_
      refine lv_icmp_lt (tgt := 51) hx hb d_R_forUnseal_36 rfl (fun h_36 => ?_) (fun h_36 => ?_)
      · -- 36: taken
        refine lv_iconst (v := (2 : Int32)) hx hb d_R_forUnseal_51 (by decide) ?_
        exact e_pi S hr hlocks ((if_pos h_9).trans ((if_pos h_21).trans ((if_pos h_36).trans (rfl))) : f_R_forUnseal rb rc cK = (2 : Int32)).symm d_R_forUnseal_52
      · -- 36: not taken
        refine lv_aload_n hx hb d_R_forUnseal_39 rfl (lv_at hl 0 rfl) ?_
        refine r_get S hK hP 8 (by decide) fl_R_32 rfl d_R_forUnseal_40 ?_
        refine lv_aload_n hx hb d_R_forUnseal_43 rfl (lv_at hl 0 rfl) ?_
        refine r_get S hK hP 14 (by decide) fl_R_60 rfl d_R_forUnseal_44 ?_
        refine r_ald_y S hK hP (by first | assumption | exact and7_in _) d_R_forUnseal_47 ?_
        refine lv_if_le (tgt := 53) hx hb d_R_forUnseal_48 rfl (fun h_48 => ?_) (fun h_48 => ?_)
        · -- 48: taken
          refine lv_aload_n hx hb d_R_forUnseal_53 rfl (lv_at hl 0 rfl) ?_
          refine r_get S hK hP 6 (by decide) fl_R_26 rfl d_R_forUnseal_54 ?_
          refine lv_aload_n hx hb d_R_forUnseal_57 rfl (lv_at hl 0 rfl) ?_
          refine r_get S hK hP 14 (by decide) fl_R_60 rfl d_R_forUnseal_58 ?_
          refine r_ald_a S hK hP (by first | assumption | exact and7_in _) d_R_forUnseal_61 ?_
          refine lv_aload_n hx hb d_R_forUnseal_62 rfl (lv_at hl 0 rfl) ?_
          refine r_get S hK hP 8 (by decide) fl_R_32 rfl d_R_forUnseal_63 ?_
          refine lv_aload_n hx hb d_R_forUnseal_66 rfl (lv_at hl 0 rfl) ?_
          refine r_get S hK hP 13 (by decide) fl_R_57 rfl d_R_forUnseal_67 ?_
          refine r_ald_y S hK hP (by first | assumption | exact and7_in _) d_R_forUnseal_70 ?_
          refine lv_icmp_eq (tgt := 77) hx hb d_R_forUnseal_71 rfl (fun h_71 => ?_) (fun h_71 => ?_)
          · -- 71: taken
            refine lv_aload_n hx hb d_R_forUnseal_77 rfl (lv_at hl 0 rfl) ?_
            refine lv_aload_n hx hb d_R_forUnseal_78 rfl (lv_at hl 0 rfl) ?_
            refine r_get S hK hP 14 (by decide) fl_R_60 rfl d_R_forUnseal_79 ?_
            refine lv_bipush (v := (64 : Int32)) hx hb d_R_forUnseal_82 (by decide) ?_
            refine c_pV [] S (c_R_may l _ _ _ _ _ _ _ _ _ _ _ _ _ _ _ _ rc (64 : Int32) (by first | assumption | exact in_k rfl | decide)) mf_R_may ml_R_51 hK hN hP 0 3 rfl rfl ⟨rfl, rfl, Nat.le_of_ble_eq_true rfl, Nat.le_of_ble_eq_true rfl⟩ rfl hl.1 rfl (Nat.le_of_ble_eq_true rfl) d_R_forUnseal_84 ⟨Nat.zero_le _, Nat.zero_le _⟩ ?_
            refine jn 110 ls [] (if (f_R_may cK rc (64 : Int32)) = true then (if (f_R_points cK rc) = true then (0 : Int32) else (4 : Int32)) else (3 : Int32)) ?_ (fun k_110 => ?_)
            · -- from 110 on
              exact e_pi S hr hlocks ((if_pos h_9).trans ((if_pos h_21).trans ((if_neg h_36).trans ((if_pos h_48).trans ((if_pos h_71).trans (rfl))))) : f_R_forUnseal rb rc cK = if (f_R_may cK rc (64 : Int32)) = true then (if (f_R_points cK rc) = true then (0 : Int32) else (4 : Int32)) else (3 : Int32)).symm d_R_forUnseal_110
            · -- to 110
              refine zb_ne (tgt := 94) hx hb d_R_forUnseal_87 rfl (fun h_87 => ?_) (fun h_87 => ?_)
              · -- 87: taken
                refine lv_aload_n hx hb d_R_forUnseal_94 rfl (lv_at hl 0 rfl) ?_
                refine lv_aload_n hx hb d_R_forUnseal_95 rfl (lv_at hl 0 rfl) ?_
                refine r_get S hK hP 14 (by decide) fl_R_60 rfl d_R_forUnseal_96 ?_
                refine c_pV [] S (c_R_points l _ _ _ _ _ _ _ _ _ _ _ _ _ _ _ _ rc (by first | assumption | exact in_k rfl | decide)) mf_R_points ml_R_75 hK hN hP 0 3 rfl rfl ⟨rfl, rfl, Nat.le_of_ble_eq_true rfl, Nat.le_of_ble_eq_true rfl⟩ rfl hl.1 rfl (Nat.le_of_ble_eq_true rfl) d_R_forUnseal_99 ⟨Nat.zero_le _, Nat.zero_le _⟩ ?_
                refine zb_eq (tgt := 109) hx hb d_R_forUnseal_102 rfl (fun h_102 => ?_) (fun h_102 => ?_)
                · -- 102: taken
                  refine lv_iconst (v := (4 : Int32)) hx hb d_R_forUnseal_109 (by decide) ?_
                  exact k_110 _ ((if_pos h_87).trans ((if_neg (bn_f h_102)).trans (rfl)) : (if (f_R_may cK rc (64 : Int32)) = true then (if (f_R_points cK rc) = true then (0 : Int32) else (4 : Int32)) else (3 : Int32)) = (4 : Int32)).symm
                · -- 102: not taken
                  refine lv_iconst (v := (0 : Int32)) hx hb d_R_forUnseal_105 (by decide) ?_
                  refine lv_goto (tgt := 110) hx hb d_R_forUnseal_106 rfl ?_
                  exact k_110 _ ((if_pos h_87).trans ((if_pos h_102).trans (rfl)) : (if (f_R_may cK rc (64 : Int32)) = true then (if (f_R_points cK rc) = true then (0 : Int32) else (4 : Int32)) else (3 : Int32)) = (0 : Int32)).symm
              · -- 87: not taken
                refine lv_iconst (v := (3 : Int32)) hx hb d_R_forUnseal_90 (by decide) ?_
                refine lv_goto (tgt := 110) hx hb d_R_forUnseal_91 rfl ?_
                exact k_110 _ ((if_neg (bn_f h_87)).trans (rfl) : (if (f_R_may cK rc (64 : Int32)) = true then (if (f_R_points cK rc) = true then (0 : Int32) else (4 : Int32)) else (3 : Int32)) = (3 : Int32)).symm
          · -- 71: not taken
            refine lv_bipush (v := (7 : Int32)) hx hb d_R_forUnseal_74 (by decide) ?_
            exact e_pi S hr hlocks ((if_pos h_9).trans ((if_pos h_21).trans ((if_neg h_36).trans ((if_pos h_48).trans ((if_neg h_71).trans (rfl))))) : f_R_forUnseal rb rc cK = (7 : Int32)).symm d_R_forUnseal_76
        · -- 48: not taken
          refine lv_iconst (v := (2 : Int32)) hx hb d_R_forUnseal_51 (by decide) ?_
          exact e_pi S hr hlocks ((if_pos h_9).trans ((if_pos h_21).trans ((if_neg h_36).trans ((if_neg h_48).trans (rfl)))) : f_R_forUnseal rb rc cK = (2 : Int32)).symm d_R_forUnseal_52
    · -- 21: not taken
      refine lv_iconst (v := (1 : Int32)) hx hb d_R_forUnseal_24 (by decide) ?_
      exact e_pi S hr hlocks ((if_pos h_9).trans ((if_neg (bn_f h_21)).trans (rfl)) : f_R_forUnseal rb rc cK = (1 : Int32)).symm d_R_forUnseal_25
def f_R_forAccess (co : Int32) (ra : Int32) (rb : Int32) (im : Int32) (cK : Nat → Cp) : Int32 :=
  (f_R_allow cK rb (((k_a (cK rb.toNatClampNeg)).toInt64) + im.toInt64) (f_R_size co) (if co = (19 : Int32) then (9 : Int32) else (if co = (22 : Int32) then (if (k_v (cK ra.toNatClampNeg)) = true then (18 : Int32) else (if (20 : Int32) ≤ co then (2 : Int32) else (1 : Int32))) else (if (20 : Int32) ≤ co then (2 : Int32) else (1 : Int32)))))
set_option maxHeartbeats 4000000 in
set_option maxRecDepth 100000 in
theorem c_R_forAccess (l : Launch) (D : va_G) (q : Nat → ClassId) (xa : Nat → Nat) (th : Int32) (ca : Int32) (st : Int32) (co : Int32) (ra : Int32) (rb : Int32) (rc : Int32) (im : Int32) (hf : Int32) (rz : Bool) (fM : Nat → Int32) (gT : Nat → Bool) (cK : Nat → Cp) (hra : vp_in ra 12) (hrb : vp_in rb 12) : PMi l y_R_forAccess b_R_forAccess 2 (some .int) ({ frames := 2, cells := 0, slots := 0, locals := 50 }) [.ref (xa 0)] D (tyR q) (rW q xa th ca st co ra rb rc im hf rz fM gT cK) ((f_R_forAccess co ra rb im cK)) := by
  refine ofP (by decide) (Nat.le_of_ble_eq_true rfl) ?_
  intro p e s m below meth c ls S hr hlocks hK hN hP hl
  have hx := S.1
  have hb := S.2.1
  have hl : lv_has ls 2 [(0, .ref (xa 0))] := hl
  refine lv_aload_n hx hb d_R_forAccess_0 rfl (lv_at hl 0 rfl) ?_
  refine r_get S hK hP 11 (by decide) fl_R_72 rfl d_R_forAccess_1 ?_
  refine lv_bipush (v := (20 : Int32)) hx hb d_R_forAccess_4 (by decide) ?_
  refine jn 14 ls [] (if (20 : Int32) ≤ co then (2 : Int32) else (1 : Int32)) ?_ (fun k_14 => ?_)
  · -- from 14 on
    refine lv_istore_n (lv' := [(1, .int _), (0, .ref _)]) hx hb d_R_forAccess_14 rfl hl (by decide) rfl (fun ls hl => ?_)
    refine lv_aload_n hx hb d_R_forAccess_15 rfl (lv_at hl 1 rfl) ?_
    refine r_get S hK hP 11 (by decide) fl_R_72 rfl d_R_forAccess_16 ?_
    refine lv_bipush (v := (19 : Int32)) hx hb d_R_forAccess_19 (by decide) ?_
    refine jn 56 ls [] (if co = (19 : Int32) then (9 : Int32) else (if co = (22 : Int32) then (if (k_v (cK ra.toNatClampNeg)) = true then (18 : Int32) else (if (20 : Int32) ≤ co then (2 : Int32) else (1 : Int32))) else (if (20 : Int32) ≤ co then (2 : Int32) else (1 : Int32)))) ?_ (fun k_56 => ?_)
    · -- from 56 on
      refine lv_istore_n (lv' := [(1, .int _), (0, .ref _)]) hx hb d_R_forAccess_56 rfl hl (by decide) rfl (fun ls hl => ?_)
      refine lv_aload_n hx hb d_R_forAccess_57 rfl (lv_at hl 1 rfl) ?_
      refine lv_aload_n hx hb d_R_forAccess_58 rfl (lv_at hl 1 rfl) ?_
      refine r_get S hK hP 13 (by decide) fl_R_57 rfl d_R_forAccess_59 ?_
      refine lv_aload_n hx hb d_R_forAccess_62 rfl (lv_at hl 1 rfl) ?_
      refine r_get S hK hP 6 (by decide) fl_R_26 rfl d_R_forAccess_63 ?_
      refine lv_aload_n hx hb d_R_forAccess_66 rfl (lv_at hl 1 rfl) ?_
      refine r_get S hK hP 13 (by decide) fl_R_57 rfl d_R_forAccess_67 ?_
      refine r_ald_a S hK hP (by first | assumption | exact and7_in _) d_R_forAccess_70 ?_
      refine lv_i2l (v := (k_a (cK rb.toNatClampNeg)).toInt64) hx hb d_R_forAccess_71 rfl ?_
      refine lv_aload_n hx hb d_R_forAccess_72 rfl (lv_at hl 1 rfl) ?_
      refine r_get S hK hP 15 (by decide) fl_R_82 rfl d_R_forAccess_73 ?_
      refine lv_i2l (v := im.toInt64) hx hb d_R_forAccess_76 rfl ?_
      refine lv_ladd hx hb d_R_forAccess_77 ?_
      refine lv_aload_n hx hb d_R_forAccess_78 rfl (lv_at hl 1 rfl) ?_
      refine c_pV [.long (((k_a (cK rb.toNatClampNeg)).toInt64) + im.toInt64), .int rb, .ref (xa 0)] S (c_R_size l _ _ _ _ _ _ _ _ _ _ _ _ _ _ _ _) mf_R_size ml_R_85 hK hN hP 0 3 rfl rfl ⟨rfl, rfl, Nat.le_of_ble_eq_true rfl, Nat.le_of_ble_eq_true rfl⟩ rfl hl.1 rfl (Nat.le_of_ble_eq_true rfl) d_R_forAccess_79 ⟨Nat.zero_le _, Nat.zero_le _⟩ ?_
      refine lv_iload_n hx hb d_R_forAccess_82 rfl (lv_at hl 0 rfl) ?_
      refine c_pV [] S (c_R_allow l _ _ _ _ _ _ _ _ _ _ _ _ _ _ _ _ rb (((k_a (cK rb.toNatClampNeg)).toInt64) + im.toInt64) (f_R_size co) (if co = (19 : Int32) then (9 : Int32) else (if co = (22 : Int32) then (if (k_v (cK ra.toNatClampNeg)) = true then (18 : Int32) else (if (20 : Int32) ≤ co then (2 : Int32) else (1 : Int32))) else (if (20 : Int32) ≤ co then (2 : Int32) else (1 : Int32)))) (by first | assumption | exact in_k rfl | decide) (sz_n0 _)) mf_R_allow ml_R_89 hK hN hP 0 3 rfl rfl ⟨rfl, rfl, Nat.le_of_ble_eq_true rfl, Nat.le_of_ble_eq_true rfl⟩ rfl hl.1 rfl (Nat.le_of_ble_eq_true rfl) d_R_forAccess_83 ⟨Nat.zero_le _, Nat.zero_le _⟩ ?_
      exact e_pi S hr hlocks (rfl : f_R_forAccess co ra rb im cK = (f_R_allow cK rb (((k_a (cK rb.toNatClampNeg)).toInt64) + im.toInt64) (f_R_size co) (if co = (19 : Int32) then (9 : Int32) else (if co = (22 : Int32) then (if (k_v (cK ra.toNatClampNeg)) = true then (18 : Int32) else (if (20 : Int32) ≤ co then (2 : Int32) else (1 : Int32))) else (if (20 : Int32) ≤ co then (2 : Int32) else (1 : Int32)))))).symm d_R_forAccess_86
    · -- to 56
      refine lv_icmp_ne (tgt := 29) hx hb d_R_forAccess_21 rfl (fun h_21 => ?_) (fun h_21 => ?_)
      · -- 21: taken
        refine lv_aload_n hx hb d_R_forAccess_29 rfl (lv_at hl 1 rfl) ?_
        refine r_get S hK hP 11 (by decide) fl_R_72 rfl d_R_forAccess_30 ?_
        refine lv_bipush (v := (22 : Int32)) hx hb d_R_forAccess_33 (by decide) ?_
        refine lv_icmp_ne (tgt := 55) hx hb d_R_forAccess_35 rfl (fun h_35 => ?_) (fun h_35 => ?_)
        · -- 35: taken
          refine lv_iload_n hx hb d_R_forAccess_55 rfl (lv_at hl 0 rfl) ?_
          exact k_56 _ ((if_neg h_21).trans ((if_neg h_35).trans (rfl)) : (if co = (19 : Int32) then (9 : Int32) else (if co = (22 : Int32) then (if (k_v (cK ra.toNatClampNeg)) = true then (18 : Int32) else (if (20 : Int32) ≤ co then (2 : Int32) else (1 : Int32))) else (if (20 : Int32) ≤ co then (2 : Int32) else (1 : Int32)))) = if (20 : Int32) ≤ co then (2 : Int32) else (1 : Int32)).symm
        · -- 35: not taken
          refine lv_aload_n hx hb d_R_forAccess_38 rfl (lv_at hl 1 rfl) ?_
          refine r_get S hK hP 3 (by decide) fl_R_17 rfl d_R_forAccess_39 ?_
          refine lv_aload_n hx hb d_R_forAccess_42 rfl (lv_at hl 1 rfl) ?_
          refine r_get S hK hP 12 (by decide) fl_R_79 rfl d_R_forAccess_43 ?_
          refine r_ald_v S hK hP (by first | assumption | exact and7_in _) d_R_forAccess_46 ?_
          refine zb_eq (tgt := 55) hx hb d_R_forAccess_47 rfl (fun h_47 => ?_) (fun h_47 => ?_)
          · -- 47: taken
            refine lv_iload_n hx hb d_R_forAccess_55 rfl (lv_at hl 0 rfl) ?_
            exact k_56 _ ((if_neg h_21).trans ((if_pos h_35).trans ((if_neg (bn_f h_47)).trans (rfl))) : (if co = (19 : Int32) then (9 : Int32) else (if co = (22 : Int32) then (if (k_v (cK ra.toNatClampNeg)) = true then (18 : Int32) else (if (20 : Int32) ≤ co then (2 : Int32) else (1 : Int32))) else (if (20 : Int32) ≤ co then (2 : Int32) else (1 : Int32)))) = if (20 : Int32) ≤ co then (2 : Int32) else (1 : Int32)).symm
          · -- 47: not taken
            refine lv_bipush (v := (18 : Int32)) hx hb d_R_forAccess_50 (by decide) ?_
            refine lv_goto (tgt := 56) hx hb d_R_forAccess_52 rfl ?_
            exact k_56 _ ((if_neg h_21).trans ((if_pos h_35).trans ((if_pos h_47).trans (rfl))) : (if co = (19 : Int32) then (9 : Int32) else (if co = (22 : Int32) then (if (k_v (cK ra.toNatClampNeg)) = true then (18 : Int32) else (if (20 : Int32) ≤ co then (2 : Int32) else (1 : Int32))) else (if (20 : Int32) ≤ co then (2 : Int32) else (1 : Int32)))) = (18 : Int32)).symm
      · -- 21: not taken
        refine lv_bipush (v := (9 : Int32)) hx hb d_R_forAccess_24 (by decide) ?_
        refine lv_goto (tgt := 56) hx hb d_R_forAccess_26 rfl ?_
        exact k_56 _ ((if_pos h_21).trans (rfl) : (if co = (19 : Int32) then (9 : Int32) else (if co = (22 : Int32) then (if (k_v (cK ra.toNatClampNeg)) = true then (18 : Int32) else (if (20 : Int32) ≤ co then (2 : Int32) else (1 : Int32))) else (if (20 : Int32) ≤ co then (2 : Int32) else (1 : Int32)))) = (9 : Int32)).symm
  · -- to 14
    refine lv_icmp_ge (tgt := 13) hx hb d_R_forAccess_6 rfl (fun h_6 => ?_) (fun h_6 => ?_)
    · -- 6: taken
      refine lv_iconst (v := (2 : Int32)) hx hb d_R_forAccess_13 (by decide) ?_
      exact k_14 _ ((if_pos h_6).trans (rfl) : (if (20 : Int32) ≤ co then (2 : Int32) else (1 : Int32)) = (2 : Int32)).symm
    · -- 6: not taken
      refine lv_iconst (v := (1 : Int32)) hx hb d_R_forAccess_9 (by decide) ?_
      refine lv_goto (tgt := 14) hx hb d_R_forAccess_10 rfl ?_
      exact k_14 _ ((if_neg h_6).trans (rfl) : (if (20 : Int32) ≤ co then (2 : Int32) else (1 : Int32)) = (1 : Int32)).symm
def f_R_forJump (rb : Int32) (cK : Nat → Cp) : Int32 :=
  if (k_v (cK rb.toNatClampNeg)) = true then (if (k_y (cK rb.toNatClampNeg)) ≤ (1 : Int32) then (if (f_R_may cK rb (4 : Int32)) = true then (0 : Int32) else (3 : Int32)) else (2 : Int32)) else (1 : Int32)
set_option maxHeartbeats 4000000 in
set_option maxRecDepth 100000 in
theorem c_R_forJump (l : Launch) (D : va_G) (q : Nat → ClassId) (xa : Nat → Nat) (th : Int32) (ca : Int32) (st : Int32) (co : Int32) (ra : Int32) (rb : Int32) (rc : Int32) (im : Int32) (hf : Int32) (rz : Bool) (fM : Nat → Int32) (gT : Nat → Bool) (cK : Nat → Cp) (hrb : vp_in rb 12) : PMi l y_R_forJump b_R_forJump 1 (some .int) ({ frames := 1, cells := 0, slots := 0, locals := 22 }) [.ref (xa 0)] D (tyR q) (rW q xa th ca st co ra rb rc im hf rz fM gT cK) ((f_R_forJump rb cK)) := by
  refine ofP (by decide) (Nat.le_of_ble_eq_true rfl) ?_
  intro p e s m below meth c ls S hr hlocks hK hN hP hl
  have hx := S.1
  have hb := S.2.1
  have hl : lv_has ls 1 [(0, .ref (xa 0))] := hl
  refine lv_aload_n hx hb d_R_forJump_0 rfl (lv_at hl 0 rfl) ?_
  refine r_get S hK hP 3 (by decide) fl_R_17 rfl d_R_forJump_1 ?_
  refine lv_aload_n hx hb d_R_forJump_4 rfl (lv_at hl 0 rfl) ?_
  refine r_get S hK hP 13 (by decide) fl_R_57 rfl d_R_forJump_5 ?_
  refine r_ald_v S hK hP (by first | assumption | exact and7_in _) d_R_forJump_8 ?_
  refine jn 50 ls [] (if (k_v (cK rb.toNatClampNeg)) = true then (if (k_y (cK rb.toNatClampNeg)) ≤ (1 : Int32) then (if (f_R_may cK rb (4 : Int32)) = true then (0 : Int32) else (3 : Int32)) else (2 : Int32)) else (1 : Int32)) ?_ (fun k_50 => ?_)
  · -- from 50 on
    exact e_pi S hr hlocks (rfl : f_R_forJump rb cK = if (k_v (cK rb.toNatClampNeg)) = true then (if (k_y (cK rb.toNatClampNeg)) ≤ (1 : Int32) then (if (f_R_may cK rb (4 : Int32)) = true then (0 : Int32) else (3 : Int32)) else (2 : Int32)) else (1 : Int32)).symm d_R_forJump_50
  · -- to 50
    refine zb_ne (tgt := 16) hx hb d_R_forJump_9 rfl (fun h_9 => ?_) (fun h_9 => ?_)
    · -- 9: taken
      refine lv_aload_n hx hb d_R_forJump_16 rfl (lv_at hl 0 rfl) ?_
      refine r_get S hK hP 8 (by decide) fl_R_32 rfl d_R_forJump_17 ?_
      refine lv_aload_n hx hb d_R_forJump_20 rfl (lv_at hl 0 rfl) ?_
      refine r_get S hK hP 13 (by decide) fl_R_57 rfl d_R_forJump_21 ?_
      refine r_ald_y S hK hP (by first | assumption | exact and7_in _) d_R_forJump_24 ?_
      refine lv_iconst (v := (1 : Int32)) hx hb d_R_forJump_25 (by decide) ?_
      refine lv_icmp_le (tgt := 33) hx hb d_R_forJump_26 rfl (fun h_26 => ?_) (fun h_26 => ?_)
      · -- 26: taken
        refine lv_aload_n hx hb d_R_forJump_33 rfl (lv_at hl 0 rfl) ?_
        refine lv_aload_n hx hb d_R_forJump_34 rfl (lv_at hl 0 rfl) ?_
        refine r_get S hK hP 13 (by decide) fl_R_57 rfl d_R_forJump_35 ?_
        refine lv_iconst (v := (4 : Int32)) hx hb d_R_forJump_38 (by decide) ?_
        refine c_pV [] S (c_R_may l _ _ _ _ _ _ _ _ _ _ _ _ _ _ _ _ rb (4 : Int32) (by first | assumption | exact in_k rfl | decide)) mf_R_may ml_R_51 hK hN hP 0 3 rfl rfl ⟨rfl, rfl, Nat.le_of_ble_eq_true rfl, Nat.le_of_ble_eq_true rfl⟩ rfl hl.1 rfl (Nat.le_of_ble_eq_true rfl) d_R_forJump_39 ⟨Nat.zero_le _, Nat.zero_le _⟩ ?_
        refine zb_eq (tgt := 49) hx hb d_R_forJump_42 rfl (fun h_42 => ?_) (fun h_42 => ?_)
        · -- 42: taken
          refine lv_iconst (v := (3 : Int32)) hx hb d_R_forJump_49 (by decide) ?_
          exact k_50 _ ((if_pos h_9).trans ((if_pos h_26).trans ((if_neg (bn_f h_42)).trans (rfl))) : (if (k_v (cK rb.toNatClampNeg)) = true then (if (k_y (cK rb.toNatClampNeg)) ≤ (1 : Int32) then (if (f_R_may cK rb (4 : Int32)) = true then (0 : Int32) else (3 : Int32)) else (2 : Int32)) else (1 : Int32)) = (3 : Int32)).symm
        · -- 42: not taken
          refine lv_iconst (v := (0 : Int32)) hx hb d_R_forJump_45 (by decide) ?_
          refine lv_goto (tgt := 50) hx hb d_R_forJump_46 rfl ?_
          exact k_50 _ ((if_pos h_9).trans ((if_pos h_26).trans ((if_pos h_42).trans (rfl))) : (if (k_v (cK rb.toNatClampNeg)) = true then (if (k_y (cK rb.toNatClampNeg)) ≤ (1 : Int32) then (if (f_R_may cK rb (4 : Int32)) = true then (0 : Int32) else (3 : Int32)) else (2 : Int32)) else (1 : Int32)) = (0 : Int32)).symm
      · -- 26: not taken
        refine lv_iconst (v := (2 : Int32)) hx hb d_R_forJump_29 (by decide) ?_
        refine lv_goto (tgt := 50) hx hb d_R_forJump_30 rfl ?_
        exact k_50 _ ((if_pos h_9).trans ((if_neg h_26).trans (rfl)) : (if (k_v (cK rb.toNatClampNeg)) = true then (if (k_y (cK rb.toNatClampNeg)) ≤ (1 : Int32) then (if (f_R_may cK rb (4 : Int32)) = true then (0 : Int32) else (3 : Int32)) else (2 : Int32)) else (1 : Int32)) = (2 : Int32)).symm
    · -- 9: not taken
      refine lv_iconst (v := (1 : Int32)) hx hb d_R_forJump_12 (by decide) ?_
      refine lv_goto (tgt := 50) hx hb d_R_forJump_13 rfl ?_
      exact k_50 _ ((if_neg (bn_f h_9)).trans (rfl) : (if (k_v (cK rb.toNatClampNeg)) = true then (if (k_y (cK rb.toNatClampNeg)) ≤ (1 : Int32) then (if (f_R_may cK rb (4 : Int32)) = true then (0 : Int32) else (3 : Int32)) else (2 : Int32)) else (1 : Int32)) = (1 : Int32)).symm
def f_R_exception (co : Int32) (ra : Int32) (rb : Int32) (rc : Int32) (im : Int32) (cK : Nat → Cp) : Int32 :=
  if co = (8 : Int32) then (f_R_loose cK rb)
  else if co = (9 : Int32) then (f_R_loose cK rb)
  else if co = (12 : Int32) then (f_R_loose cK rb)
  else if co = (10 : Int32) then (f_R_forBounds co rb rc cK)
  else if co = (11 : Int32) then (f_R_forBounds co rb rc cK)
  else if co = (13 : Int32) then (f_R_forSeal rb rc cK)
  else if co = (14 : Int32) then (f_R_forUnseal rb rc cK)
  else if co = (15 : Int32) then (if (f_R_usable cK rb) ≤ (0 : Int32) then (if (f_R_may cK rb (4 : Int32)) = true then (0 : Int32) else (3 : Int32)) else (f_R_usable cK rb))
  else if co = (16 : Int32) then (f_R_forJump rb cK)
  else if co ≤ (16 : Int32) then (if co ≤ (32 : Int32) then (0 : Int32) else (8 : Int32))
  else if (23 : Int32) ≤ co then (if co ≤ (32 : Int32) then (0 : Int32) else (8 : Int32))
  else (f_R_forAccess co ra rb im cK)
set_option maxHeartbeats 4000000 in
set_option maxRecDepth 100000 in
theorem c_R_exception (l : Launch) (D : va_G) (q : Nat → ClassId) (xa : Nat → Nat) (th : Int32) (ca : Int32) (st : Int32) (co : Int32) (ra : Int32) (rb : Int32) (rc : Int32) (im : Int32) (hf : Int32) (rz : Bool) (fM : Nat → Int32) (gT : Nat → Bool) (cK : Nat → Cp) (hra : vp_in ra 12) (hrb : vp_in rb 12) (hrc : vp_in rc 12) : PMi l y_R_exception b_R_exception 1 (some .int) ({ frames := 3, cells := 0, slots := 0, locals := 71 }) [.ref (xa 0)] D (tyR q) (rW q xa th ca st co ra rb rc im hf rz fM gT cK) ((f_R_exception co ra rb rc im cK)) := by
  refine ofP (by decide) (Nat.le_of_ble_eq_true rfl) ?_
  intro p e s m below meth c ls S hr hlocks hK hN hP hl
  have hx := S.1
  have hb := S.2.1
  have hl : lv_has ls 1 [(0, .ref (xa 0))] := hl
  refine lv_aload_n hx hb d_R_exception_0 rfl (lv_at hl 0 rfl) ?_
  refine r_get S hK hP 11 (by decide) fl_R_72 rfl d_R_exception_1 ?_
  refine lv_bipush (v := (8 : Int32)) hx hb d_R_exception_4 (by decide) ?_
  refine lv_icmp_eq (tgt := 27) hx hb d_R_exception_6 rfl (fun h_6 => ?_) (fun h_6 => ?_)
  · -- 6: taken
    refine lv_aload_n hx hb d_R_exception_27 rfl (lv_at hl 0 rfl) ?_
    refine lv_aload_n hx hb d_R_exception_28 rfl (lv_at hl 0 rfl) ?_
    refine r_get S hK hP 13 (by decide) fl_R_57 rfl d_R_exception_29 ?_
    refine c_pV [] S (c_R_loose l _ _ _ _ _ _ _ _ _ _ _ _ _ _ _ _ rb (by first | assumption | exact in_k rfl | decide)) mf_R_loose ml_R_93 hK hN hP 0 3 rfl rfl ⟨rfl, rfl, Nat.le_of_ble_eq_true rfl, Nat.le_of_ble_eq_true rfl⟩ rfl hl.1 rfl (Nat.le_of_ble_eq_true rfl) d_R_exception_32 ⟨Nat.zero_le _, Nat.zero_le _⟩ ?_
    exact e_pi S hr hlocks ((if_pos h_6).trans (rfl) : f_R_exception co ra rb rc im cK = (f_R_loose cK rb)).symm d_R_exception_35
  · -- 6: not taken
    refine lv_aload_n hx hb d_R_exception_9 rfl (lv_at hl 0 rfl) ?_
    refine r_get S hK hP 11 (by decide) fl_R_72 rfl d_R_exception_10 ?_
    refine lv_bipush (v := (9 : Int32)) hx hb d_R_exception_13 (by decide) ?_
    refine lv_icmp_eq (tgt := 27) hx hb d_R_exception_15 rfl (fun h_15 => ?_) (fun h_15 => ?_)
    · -- 15: taken
      refine lv_aload_n hx hb d_R_exception_27 rfl (lv_at hl 0 rfl) ?_
      refine lv_aload_n hx hb d_R_exception_28 rfl (lv_at hl 0 rfl) ?_
      refine r_get S hK hP 13 (by decide) fl_R_57 rfl d_R_exception_29 ?_
      refine c_pV [] S (c_R_loose l _ _ _ _ _ _ _ _ _ _ _ _ _ _ _ _ rb (by first | assumption | exact in_k rfl | decide)) mf_R_loose ml_R_93 hK hN hP 0 3 rfl rfl ⟨rfl, rfl, Nat.le_of_ble_eq_true rfl, Nat.le_of_ble_eq_true rfl⟩ rfl hl.1 rfl (Nat.le_of_ble_eq_true rfl) d_R_exception_32 ⟨Nat.zero_le _, Nat.zero_le _⟩ ?_
      exact e_pi S hr hlocks ((if_neg h_6).trans ((if_pos h_15).trans (rfl)) : f_R_exception co ra rb rc im cK = (f_R_loose cK rb)).symm d_R_exception_35
    · -- 15: not taken
      refine lv_aload_n hx hb d_R_exception_18 rfl (lv_at hl 0 rfl) ?_
      refine r_get S hK hP 11 (by decide) fl_R_72 rfl d_R_exception_19 ?_
      refine lv_bipush (v := (12 : Int32)) hx hb d_R_exception_22 (by decide) ?_
      refine lv_icmp_ne (tgt := 36) hx hb d_R_exception_24 rfl (fun h_24 => ?_) (fun h_24 => ?_)
      · -- 24: taken
        refine lv_aload_n hx hb d_R_exception_36 rfl (lv_at hl 0 rfl) ?_
        refine r_get S hK hP 11 (by decide) fl_R_72 rfl d_R_exception_37 ?_
        refine lv_bipush (v := (10 : Int32)) hx hb d_R_exception_40 (by decide) ?_
        refine lv_icmp_eq (tgt := 54) hx hb d_R_exception_42 rfl (fun h_42 => ?_) (fun h_42 => ?_)
        · -- 42: taken
          refine lv_aload_n hx hb d_R_exception_54 rfl (lv_at hl 0 rfl) ?_
          refine c_pV [] S (c_R_forBounds l _ _ _ _ _ _ _ _ _ _ _ _ _ _ _ _ (by first | assumption | exact in_k rfl | decide) (by first | assumption | exact in_k rfl | decide)) mf_R_forBounds ml_R_96 hK hN hP 0 3 rfl rfl ⟨rfl, rfl, Nat.le_of_ble_eq_true rfl, Nat.le_of_ble_eq_true rfl⟩ rfl hl.1 rfl (Nat.le_of_ble_eq_true rfl) d_R_exception_55 ⟨Nat.zero_le _, Nat.zero_le _⟩ ?_
          exact e_pi S hr hlocks ((if_neg h_6).trans ((if_neg h_15).trans ((if_neg h_24).trans ((if_pos h_42).trans (rfl)))) : f_R_exception co ra rb rc im cK = (f_R_forBounds co rb rc cK)).symm d_R_exception_58
        · -- 42: not taken
          refine lv_aload_n hx hb d_R_exception_45 rfl (lv_at hl 0 rfl) ?_
          refine r_get S hK hP 11 (by decide) fl_R_72 rfl d_R_exception_46 ?_
          refine lv_bipush (v := (11 : Int32)) hx hb d_R_exception_49 (by decide) ?_
          refine lv_icmp_ne (tgt := 59) hx hb d_R_exception_51 rfl (fun h_51 => ?_) (fun h_51 => ?_)
          · -- 51: taken
            refine lv_aload_n hx hb d_R_exception_59 rfl (lv_at hl 0 rfl) ?_
            refine r_get S hK hP 11 (by decide) fl_R_72 rfl d_R_exception_60 ?_
            refine lv_bipush (v := (13 : Int32)) hx hb d_R_exception_63 (by decide) ?_
            refine lv_icmp_ne (tgt := 73) hx hb d_R_exception_65 rfl (fun h_65 => ?_) (fun h_65 => ?_)
            · -- 65: taken
              refine lv_aload_n hx hb d_R_exception_73 rfl (lv_at hl 0 rfl) ?_
              refine r_get S hK hP 11 (by decide) fl_R_72 rfl d_R_exception_74 ?_
              refine lv_bipush (v := (14 : Int32)) hx hb d_R_exception_77 (by decide) ?_
              refine lv_icmp_ne (tgt := 87) hx hb d_R_exception_79 rfl (fun h_79 => ?_) (fun h_79 => ?_)
              · -- 79: taken
                refine lv_aload_n hx hb d_R_exception_87 rfl (lv_at hl 0 rfl) ?_
                refine r_get S hK hP 11 (by decide) fl_R_72 rfl d_R_exception_88 ?_
                refine lv_bipush (v := (15 : Int32)) hx hb d_R_exception_91 (by decide) ?_
                refine lv_icmp_ne (tgt := 136) hx hb d_R_exception_93 rfl (fun h_93 => ?_) (fun h_93 => ?_)
                · -- 93: taken
                  refine lv_aload_n hx hb d_R_exception_136 rfl (lv_at hl 0 rfl) ?_
                  refine r_get S hK hP 11 (by decide) fl_R_72 rfl d_R_exception_137 ?_
                  refine lv_bipush (v := (16 : Int32)) hx hb d_R_exception_140 (by decide) ?_
                  refine lv_icmp_ne (tgt := 150) hx hb d_R_exception_142 rfl (fun h_142 => ?_) (fun h_142 => ?_)
                  · -- 142: taken
                    refine lv_aload_n hx hb d_R_exception_150 rfl (lv_at hl 0 rfl) ?_
                    refine r_get S hK hP 11 (by decide) fl_R_72 rfl d_R_exception_151 ?_
                    refine lv_bipush (v := (16 : Int32)) hx hb d_R_exception_154 (by decide) ?_
                    refine lv_icmp_le (tgt := 173) hx hb d_R_exception_156 rfl (fun h_156 => ?_) (fun h_156 => ?_)
                    · -- 156: taken
                      refine lv_aload_n hx hb d_R_exception_173 rfl (lv_at hl 0 rfl) ?_
                      refine r_get S hK hP 11 (by decide) fl_R_72 rfl d_R_exception_174 ?_
                      refine lv_bipush (v := (32 : Int32)) hx hb d_R_exception_177 (by decide) ?_
                      refine jn 188 ls [] (if co ≤ (32 : Int32) then (0 : Int32) else (8 : Int32)) ?_ (fun k_188 => ?_)
                      · -- from 188 on
                        exact e_pi S hr hlocks ((if_neg h_6).trans ((if_neg h_15).trans ((if_neg h_24).trans ((if_neg h_42).trans ((if_neg h_51).trans ((if_neg h_65).trans ((if_neg h_79).trans ((if_neg h_93).trans ((if_neg h_142).trans ((if_pos h_156).trans (rfl)))))))))) : f_R_exception co ra rb rc im cK = if co ≤ (32 : Int32) then (0 : Int32) else (8 : Int32)).symm d_R_exception_188
                      · -- to 188
                        refine lv_icmp_le (tgt := 187) hx hb d_R_exception_179 rfl (fun h_179 => ?_) (fun h_179 => ?_)
                        · -- 179: taken
                          refine lv_iconst (v := (0 : Int32)) hx hb d_R_exception_187 (by decide) ?_
                          exact k_188 _ ((if_pos h_179).trans (rfl) : (if co ≤ (32 : Int32) then (0 : Int32) else (8 : Int32)) = (0 : Int32)).symm
                        · -- 179: not taken
                          refine lv_bipush (v := (8 : Int32)) hx hb d_R_exception_182 (by decide) ?_
                          refine lv_goto (tgt := 188) hx hb d_R_exception_184 rfl ?_
                          exact k_188 _ ((if_neg h_179).trans (rfl) : (if co ≤ (32 : Int32) then (0 : Int32) else (8 : Int32)) = (8 : Int32)).symm
                    · -- 156: not taken
                      refine lv_aload_n hx hb d_R_exception_159 rfl (lv_at hl 0 rfl) ?_
                      refine r_get S hK hP 11 (by decide) fl_R_72 rfl d_R_exception_160 ?_
                      refine lv_bipush (v := (23 : Int32)) hx hb d_R_exception_163 (by decide) ?_
                      refine lv_icmp_ge (tgt := 173) hx hb d_R_exception_165 rfl (fun h_165 => ?_) (fun h_165 => ?_)
                      · -- 165: taken
                        refine lv_aload_n hx hb d_R_exception_173 rfl (lv_at hl 0 rfl) ?_
                        refine r_get S hK hP 11 (by decide) fl_R_72 rfl d_R_exception_174 ?_
                        refine lv_bipush (v := (32 : Int32)) hx hb d_R_exception_177 (by decide) ?_
                        refine jn 188 ls [] (if co ≤ (32 : Int32) then (0 : Int32) else (8 : Int32)) ?_ (fun k_188 => ?_)
                        · -- from 188 on
                          exact e_pi S hr hlocks ((if_neg h_6).trans ((if_neg h_15).trans ((if_neg h_24).trans ((if_neg h_42).trans ((if_neg h_51).trans ((if_neg h_65).trans ((if_neg h_79).trans ((if_neg h_93).trans ((if_neg h_142).trans ((if_neg h_156).trans ((if_pos h_165).trans (rfl))))))))))) : f_R_exception co ra rb rc im cK = if co ≤ (32 : Int32) then (0 : Int32) else (8 : Int32)).symm d_R_exception_188
                        · -- to 188
                          refine lv_icmp_le (tgt := 187) hx hb d_R_exception_179 rfl (fun h_179 => ?_) (fun h_179 => ?_)
                          · -- 179: taken
                            refine lv_iconst (v := (0 : Int32)) hx hb d_R_exception_187 (by decide) ?_
                            exact k_188 _ ((if_pos h_179).trans (rfl) : (if co ≤ (32 : Int32) then (0 : Int32) else (8 : Int32)) = (0 : Int32)).symm
                          · -- 179: not taken
                            refine lv_bipush (v := (8 : Int32)) hx hb d_R_exception_182 (by decide) ?_
                            refine lv_goto (tgt := 188) hx hb d_R_exception_184 rfl ?_
                            exact k_188 _ ((if_neg h_179).trans (rfl) : (if co ≤ (32 : Int32) then (0 : Int32) else (8 : Int32)) = (8 : Int32)).symm
                      · -- 165: not taken
                        refine lv_aload_n hx hb d_R_exception_168 rfl (lv_at hl 0 rfl) ?_
                        refine c_pV [] S (c_R_forAccess l _ _ _ _ _ _ _ _ _ _ _ _ _ _ _ _ (by first | assumption | exact in_k rfl | decide) (by first | assumption | exact in_k rfl | decide)) mf_R_forAccess ml_R_108 hK hN hP 0 3 rfl rfl ⟨rfl, rfl, Nat.le_of_ble_eq_true rfl, Nat.le_of_ble_eq_true rfl⟩ rfl hl.1 rfl (Nat.le_of_ble_eq_true rfl) d_R_exception_169 ⟨Nat.zero_le _, Nat.zero_le _⟩ ?_
                        exact e_pi S hr hlocks ((if_neg h_6).trans ((if_neg h_15).trans ((if_neg h_24).trans ((if_neg h_42).trans ((if_neg h_51).trans ((if_neg h_65).trans ((if_neg h_79).trans ((if_neg h_93).trans ((if_neg h_142).trans ((if_neg h_156).trans ((if_neg h_165).trans (rfl))))))))))) : f_R_exception co ra rb rc im cK = (f_R_forAccess co ra rb im cK)).symm d_R_exception_172
                  · -- 142: not taken
                    refine lv_aload_n hx hb d_R_exception_145 rfl (lv_at hl 0 rfl) ?_
                    refine c_pV [] S (c_R_forJump l _ _ _ _ _ _ _ _ _ _ _ _ _ _ _ _ (by first | assumption | exact in_k rfl | decide)) mf_R_forJump ml_R_105 hK hN hP 0 3 rfl rfl ⟨rfl, rfl, Nat.le_of_ble_eq_true rfl, Nat.le_of_ble_eq_true rfl⟩ rfl hl.1 rfl (Nat.le_of_ble_eq_true rfl) d_R_exception_146 ⟨Nat.zero_le _, Nat.zero_le _⟩ ?_
                    exact e_pi S hr hlocks ((if_neg h_6).trans ((if_neg h_15).trans ((if_neg h_24).trans ((if_neg h_42).trans ((if_neg h_51).trans ((if_neg h_65).trans ((if_neg h_79).trans ((if_neg h_93).trans ((if_pos h_142).trans (rfl))))))))) : f_R_exception co ra rb rc im cK = (f_R_forJump rb cK)).symm d_R_exception_149
                · -- 93: not taken
                  refine lv_aload_n hx hb d_R_exception_96 rfl (lv_at hl 0 rfl) ?_
                  refine lv_aload_n hx hb d_R_exception_97 rfl (lv_at hl 0 rfl) ?_
                  refine r_get S hK hP 13 (by decide) fl_R_57 rfl d_R_exception_98 ?_
                  refine c_pV [] S (c_R_usable l _ _ _ _ _ _ _ _ _ _ _ _ _ _ _ _ rb (by first | assumption | exact in_k rfl | decide)) mf_R_usable ml_R_47 hK hN hP 0 3 rfl rfl ⟨rfl, rfl, Nat.le_of_ble_eq_true rfl, Nat.le_of_ble_eq_true rfl⟩ rfl hl.1 rfl (Nat.le_of_ble_eq_true rfl) d_R_exception_101 ⟨Nat.zero_le _, Nat.zero_le _⟩ ?_
                  refine jn 135 ls [] (if (f_R_usable cK rb) ≤ (0 : Int32) then (if (f_R_may cK rb (4 : Int32)) = true then (0 : Int32) else (3 : Int32)) else (f_R_usable cK rb)) ?_ (fun k_135 => ?_)
                  · -- from 135 on
                    exact e_pi S hr hlocks ((if_neg h_6).trans ((if_neg h_15).trans ((if_neg h_24).trans ((if_neg h_42).trans ((if_neg h_51).trans ((if_neg h_65).trans ((if_neg h_79).trans ((if_pos h_93).trans (rfl)))))))) : f_R_exception co ra rb rc im cK = if (f_R_usable cK rb) ≤ (0 : Int32) then (if (f_R_may cK rb (4 : Int32)) = true then (0 : Int32) else (3 : Int32)) else (f_R_usable cK rb)).symm d_R_exception_135
                  · -- to 135
                    refine lv_if_le (tgt := 118) hx hb d_R_exception_104 rfl (fun h_104 => ?_) (fun h_104 => ?_)
                    · -- 104: taken
                      refine lv_aload_n hx hb d_R_exception_118 rfl (lv_at hl 0 rfl) ?_
                      refine lv_aload_n hx hb d_R_exception_119 rfl (lv_at hl 0 rfl) ?_
                      refine r_get S hK hP 13 (by decide) fl_R_57 rfl d_R_exception_120 ?_
                      refine lv_iconst (v := (4 : Int32)) hx hb d_R_exception_123 (by decide) ?_
                      refine c_pV [] S (c_R_may l _ _ _ _ _ _ _ _ _ _ _ _ _ _ _ _ rb (4 : Int32) (by first | assumption | exact in_k rfl | decide)) mf_R_may ml_R_51 hK hN hP 0 3 rfl rfl ⟨rfl, rfl, Nat.le_of_ble_eq_true rfl, Nat.le_of_ble_eq_true rfl⟩ rfl hl.1 rfl (Nat.le_of_ble_eq_true rfl) d_R_exception_124 ⟨Nat.zero_le _, Nat.zero_le _⟩ ?_
                      refine zb_eq (tgt := 134) hx hb d_R_exception_127 rfl (fun h_127 => ?_) (fun h_127 => ?_)
                      · -- 127: taken
                        refine lv_iconst (v := (3 : Int32)) hx hb d_R_exception_134 (by decide) ?_
                        exact k_135 _ ((if_pos h_104).trans ((if_neg (bn_f h_127)).trans (rfl)) : (if (f_R_usable cK rb) ≤ (0 : Int32) then (if (f_R_may cK rb (4 : Int32)) = true then (0 : Int32) else (3 : Int32)) else (f_R_usable cK rb)) = (3 : Int32)).symm
                      · -- 127: not taken
                        refine lv_iconst (v := (0 : Int32)) hx hb d_R_exception_130 (by decide) ?_
                        refine lv_goto (tgt := 135) hx hb d_R_exception_131 rfl ?_
                        exact k_135 _ ((if_pos h_104).trans ((if_pos h_127).trans (rfl)) : (if (f_R_usable cK rb) ≤ (0 : Int32) then (if (f_R_may cK rb (4 : Int32)) = true then (0 : Int32) else (3 : Int32)) else (f_R_usable cK rb)) = (0 : Int32)).symm
                    · -- 104: not taken
                      refine lv_aload_n hx hb d_R_exception_107 rfl (lv_at hl 0 rfl) ?_
                      refine lv_aload_n hx hb d_R_exception_108 rfl (lv_at hl 0 rfl) ?_
                      refine r_get S hK hP 13 (by decide) fl_R_57 rfl d_R_exception_109 ?_
                      refine c_pV [] S (c_R_usable l _ _ _ _ _ _ _ _ _ _ _ _ _ _ _ _ rb (by first | assumption | exact in_k rfl | decide)) mf_R_usable ml_R_47 hK hN hP 0 3 rfl rfl ⟨rfl, rfl, Nat.le_of_ble_eq_true rfl, Nat.le_of_ble_eq_true rfl⟩ rfl hl.1 rfl (Nat.le_of_ble_eq_true rfl) d_R_exception_112 ⟨Nat.zero_le _, Nat.zero_le _⟩ ?_
                      refine lv_goto (tgt := 135) hx hb d_R_exception_115 rfl ?_
                      exact k_135 _ ((if_neg h_104).trans (rfl) : (if (f_R_usable cK rb) ≤ (0 : Int32) then (if (f_R_may cK rb (4 : Int32)) = true then (0 : Int32) else (3 : Int32)) else (f_R_usable cK rb)) = (f_R_usable cK rb)).symm
              · -- 79: not taken
                refine lv_aload_n hx hb d_R_exception_82 rfl (lv_at hl 0 rfl) ?_
                refine c_pV [] S (c_R_forUnseal l _ _ _ _ _ _ _ _ _ _ _ _ _ _ _ _ (by first | assumption | exact in_k rfl | decide) (by first | assumption | exact in_k rfl | decide)) mf_R_forUnseal ml_R_102 hK hN hP 0 3 rfl rfl ⟨rfl, rfl, Nat.le_of_ble_eq_true rfl, Nat.le_of_ble_eq_true rfl⟩ rfl hl.1 rfl (Nat.le_of_ble_eq_true rfl) d_R_exception_83 ⟨Nat.zero_le _, Nat.zero_le _⟩ ?_
                exact e_pi S hr hlocks ((if_neg h_6).trans ((if_neg h_15).trans ((if_neg h_24).trans ((if_neg h_42).trans ((if_neg h_51).trans ((if_neg h_65).trans ((if_pos h_79).trans (rfl))))))) : f_R_exception co ra rb rc im cK = (f_R_forUnseal rb rc cK)).symm d_R_exception_86
            · -- 65: not taken
              refine lv_aload_n hx hb d_R_exception_68 rfl (lv_at hl 0 rfl) ?_
              refine c_pV [] S (c_R_forSeal l _ _ _ _ _ _ _ _ _ _ _ _ _ _ _ _ (by first | assumption | exact in_k rfl | decide) (by first | assumption | exact in_k rfl | decide)) mf_R_forSeal ml_R_99 hK hN hP 0 3 rfl rfl ⟨rfl, rfl, Nat.le_of_ble_eq_true rfl, Nat.le_of_ble_eq_true rfl⟩ rfl hl.1 rfl (Nat.le_of_ble_eq_true rfl) d_R_exception_69 ⟨Nat.zero_le _, Nat.zero_le _⟩ ?_
              exact e_pi S hr hlocks ((if_neg h_6).trans ((if_neg h_15).trans ((if_neg h_24).trans ((if_neg h_42).trans ((if_neg h_51).trans ((if_pos h_65).trans (rfl)))))) : f_R_exception co ra rb rc im cK = (f_R_forSeal rb rc cK)).symm d_R_exception_72
          · -- 51: not taken
            refine lv_aload_n hx hb d_R_exception_54 rfl (lv_at hl 0 rfl) ?_
            refine c_pV [] S (c_R_forBounds l _ _ _ _ _ _ _ _ _ _ _ _ _ _ _ _ (by first | assumption | exact in_k rfl | decide) (by first | assumption | exact in_k rfl | decide)) mf_R_forBounds ml_R_96 hK hN hP 0 3 rfl rfl ⟨rfl, rfl, Nat.le_of_ble_eq_true rfl, Nat.le_of_ble_eq_true rfl⟩ rfl hl.1 rfl (Nat.le_of_ble_eq_true rfl) d_R_exception_55 ⟨Nat.zero_le _, Nat.zero_le _⟩ ?_
            exact e_pi S hr hlocks ((if_neg h_6).trans ((if_neg h_15).trans ((if_neg h_24).trans ((if_neg h_42).trans ((if_pos h_51).trans (rfl))))) : f_R_exception co ra rb rc im cK = (f_R_forBounds co rb rc cK)).symm d_R_exception_58
      · -- 24: not taken
        refine lv_aload_n hx hb d_R_exception_27 rfl (lv_at hl 0 rfl) ?_
        refine lv_aload_n hx hb d_R_exception_28 rfl (lv_at hl 0 rfl) ?_
        refine r_get S hK hP 13 (by decide) fl_R_57 rfl d_R_exception_29 ?_
        refine c_pV [] S (c_R_loose l _ _ _ _ _ _ _ _ _ _ _ _ _ _ _ _ rb (by first | assumption | exact in_k rfl | decide)) mf_R_loose ml_R_93 hK hN hP 0 3 rfl rfl ⟨rfl, rfl, Nat.le_of_ble_eq_true rfl, Nat.le_of_ble_eq_true rfl⟩ rfl hl.1 rfl (Nat.le_of_ble_eq_true rfl) d_R_exception_32 ⟨Nat.zero_le _, Nat.zero_le _⟩ ?_
        exact e_pi S hr hlocks ((if_neg h_6).trans ((if_neg h_15).trans ((if_pos h_24).trans (rfl))) : f_R_exception co ra rb rc im cK = (f_R_loose cK rb)).symm d_R_exception_35
def f_R_word (fM : Nat → Int32) (xt : Int32) : Int32 :=
  (((fM xt.toNatClampNeg) + ((fM ((xt + (1 : Int32)).toNatClampNeg)) <<< ((8 : Int32) &&& 31))) + ((fM ((xt + (2 : Int32)).toNatClampNeg)) <<< ((16 : Int32) &&& 31))) + ((fM ((xt + (3 : Int32)).toNatClampNeg)) <<< ((24 : Int32) &&& 31))
set_option maxHeartbeats 4000000 in
set_option maxRecDepth 100000 in
theorem c_R_word (l : Launch) (D : va_G) (q : Nat → ClassId) (xa : Nat → Nat) (th : Int32) (ca : Int32) (st : Int32) (co : Int32) (ra : Int32) (rb : Int32) (rc : Int32) (im : Int32) (hf : Int32) (rz : Bool) (fM : Nat → Int32) (gT : Nat → Bool) (cK : Nat → Cp) (xt : Int32) (h : Ar xt 4) : PMi l y_R_word b_R_word 2 (some .int) ({ frames := 0, cells := 0, slots := 0, locals := 0 }) [.ref (xa 0), .int xt] D (tyR q) (rW q xa th ca st co ra rb rc im hf rz fM gT cK) ((f_R_word fM xt)) := by
  refine ofP (by decide) (Nat.le_of_ble_eq_true rfl) ?_
  intro p e s m below meth c ls S hr hlocks hK hN hP hl
  have hx := S.1
  have hb := S.2.1
  have hl : lv_has ls 2 [(0, .ref (xa 0)), (1, .int xt)] := hl
  have h0 := h.i0 (by decide)
  have h1 := h.i1 (by decide)
  have h2 := h.i2 (by decide)
  have h3 := h.i3 (by decide)
  refine lv_aload_n hx hb d_R_word_0 rfl (lv_at hl 0 rfl) ?_
  refine r_get S hK hP 1 (by decide) fl_R_7 rfl d_R_word_1 ?_
  refine lv_iload_n hx hb d_R_word_4 rfl (lv_at hl 1 rfl) ?_
  refine r_ald_mem S hK hP (by first | assumption | exact and7_in _) d_R_word_5 ?_
  refine lv_aload_n hx hb d_R_word_6 rfl (lv_at hl 0 rfl) ?_
  refine r_get S hK hP 1 (by decide) fl_R_7 rfl d_R_word_7 ?_
  refine lv_iload_n hx hb d_R_word_10 rfl (lv_at hl 1 rfl) ?_
  refine lv_iconst (v := (1 : Int32)) hx hb d_R_word_11 (by decide) ?_
  refine lv_iadd hx hb d_R_word_12 ?_
  refine r_ald_mem S hK hP (by first | assumption | exact and7_in _) d_R_word_13 ?_
  refine lv_bipush (v := (8 : Int32)) hx hb d_R_word_14 (by decide) ?_
  refine lv_ishl hx hb d_R_word_16 ?_
  refine lv_iadd hx hb d_R_word_17 ?_
  refine lv_aload_n hx hb d_R_word_18 rfl (lv_at hl 0 rfl) ?_
  refine r_get S hK hP 1 (by decide) fl_R_7 rfl d_R_word_19 ?_
  refine lv_iload_n hx hb d_R_word_22 rfl (lv_at hl 1 rfl) ?_
  refine lv_iconst (v := (2 : Int32)) hx hb d_R_word_23 (by decide) ?_
  refine lv_iadd hx hb d_R_word_24 ?_
  refine r_ald_mem S hK hP (by first | assumption | exact and7_in _) d_R_word_25 ?_
  refine lv_bipush (v := (16 : Int32)) hx hb d_R_word_26 (by decide) ?_
  refine lv_ishl hx hb d_R_word_28 ?_
  refine lv_iadd hx hb d_R_word_29 ?_
  refine lv_aload_n hx hb d_R_word_30 rfl (lv_at hl 0 rfl) ?_
  refine r_get S hK hP 1 (by decide) fl_R_7 rfl d_R_word_31 ?_
  refine lv_iload_n hx hb d_R_word_34 rfl (lv_at hl 1 rfl) ?_
  refine lv_iconst (v := (3 : Int32)) hx hb d_R_word_35 (by decide) ?_
  refine lv_iadd hx hb d_R_word_36 ?_
  refine r_ald_mem S hK hP (by first | assumption | exact and7_in _) d_R_word_37 ?_
  refine lv_bipush (v := (24 : Int32)) hx hb d_R_word_38 (by decide) ?_
  refine lv_ishl hx hb d_R_word_40 ?_
  refine lv_iadd hx hb d_R_word_41 ?_
  exact e_pi S hr hlocks (rfl : f_R_word fM xt = (((fM xt.toNatClampNeg) + ((fM ((xt + (1 : Int32)).toNatClampNeg)) <<< ((8 : Int32) &&& 31))) + ((fM ((xt + (2 : Int32)).toNatClampNeg)) <<< ((16 : Int32) &&& 31))) + ((fM ((xt + (3 : Int32)).toNatClampNeg)) <<< ((24 : Int32) &&& 31))).symm d_R_word_42
def f_R_load (ra : Int32) (fM : Nat → Int32) (gT : Nat → Bool) (cK : Nat → Cp) (xt : Int32) : (Nat → Cp) :=
  va_up (f_R_set cK ra ((f_R_word fM (xt + (4 : Int32))) &&& (1023 : Int32)) (((f_R_word fM (xt + (4 : Int32))) >>> ((10 : Int32) &&& 31)) &&& (1023 : Int32)) (f_R_word fM xt) (((f_R_word fM (xt + (4 : Int32))) >>> ((24 : Int32) &&& 31)) &&& (255 : Int32))) ra.toNatClampNeg (s_v (s_y ((f_R_set cK ra ((f_R_word fM (xt + (4 : Int32))) &&& (1023 : Int32)) (((f_R_word fM (xt + (4 : Int32))) >>> ((10 : Int32) &&& 31)) &&& (1023 : Int32)) (f_R_word fM xt) (((f_R_word fM (xt + (4 : Int32))) >>> ((24 : Int32) &&& 31)) &&& (255 : Int32))) ra.toNatClampNeg) (((f_R_word fM (xt + (4 : Int32))) >>> ((20 : Int32) &&& 31)) &&& (15 : Int32))) (gT ((xt / (8 : Int32)).toNatClampNeg)))
set_option maxHeartbeats 4000000 in
set_option maxRecDepth 100000 in
theorem c_R_load (l : Launch) (D : va_G) (q : Nat → ClassId) (xa : Nat → Nat) (th : Int32) (ca : Int32) (st : Int32) (co : Int32) (ra : Int32) (rb : Int32) (rc : Int32) (im : Int32) (hf : Int32) (rz : Bool) (fM : Nat → Int32) (gT : Nat → Bool) (cK : Nat → Cp) (A : Nat → Prop) (hD : va_D A (rW q xa th ca st co ra rb rc im hf rz fM gT cK)) (xt : Int32) (h : Ar xt 8) (hra : vp_in ra 12) : WMv l y_R_load b_R_load 4 none ({ frames := 1, cells := 0, slots := 0, locals := 25 }) [.ref (xa 0), .int xt] D (tyR q) (rW q xa th ca st co ra rb rc im hf rz fM gT cK) (rW q xa th ca st co ra rb rc im hf rz fM gT (f_R_load ra fM gT cK xt)) A := by
  refine ofV (by decide) (Nat.le_of_ble_eq_true rfl) ?_
  intro p e s m below meth c ls S hr hlocks hK hN hP hl
  have hx := S.1
  have hb := S.2.1
  have hS : va_S A s.heap s.heap [] := va_S.rf
  have hl : lv_has ls 4 [(0, .ref (xa 0)), (1, .int xt)] := hl
  have h0 := h.lo
  have h1 := h.hi
  have h2 := h.dv (by decide)
  refine lv_aload_n hx hb d_R_load_0 rfl (lv_at hl 0 rfl) ?_
  refine lv_iload_n hx hb d_R_load_1 rfl (lv_at hl 1 rfl) ?_
  refine c_pV [] S (c_R_word l _ _ _ _ _ _ _ _ _ _ _ _ _ _ _ _ xt (by first | assumption | exact in_k rfl | decide)) mf_R_word ml_R_111 hK hN hP 0 3 rfl rfl ⟨rfl, rfl, Nat.le_of_ble_eq_true rfl, Nat.le_of_ble_eq_true rfl⟩ rfl hl.1 rfl (Nat.le_of_ble_eq_true rfl) d_R_load_2 ⟨Nat.zero_le _, Nat.zero_le _⟩ ?_
  refine lv_istore_n (lv' := [(2, .int _), (0, .ref _), (1, .int _)]) hx hb d_R_load_5 rfl hl (by decide) rfl (fun ls hl => ?_)
  refine lv_aload_n hx hb d_R_load_6 rfl (lv_at hl 1 rfl) ?_
  refine lv_iload_n hx hb d_R_load_7 rfl (lv_at hl 2 rfl) ?_
  refine lv_iconst (v := (4 : Int32)) hx hb d_R_load_8 (by decide) ?_
  refine lv_iadd hx hb d_R_load_9 ?_
  refine c_pV [] S (c_R_word l _ _ _ _ _ _ _ _ _ _ _ _ _ _ _ _ (xt + (4 : Int32)) (by first | assumption | exact in_k rfl | decide)) mf_R_word ml_R_111 hK hN hP 0 3 rfl rfl ⟨rfl, rfl, Nat.le_of_ble_eq_true rfl, Nat.le_of_ble_eq_true rfl⟩ rfl hl.1 rfl (Nat.le_of_ble_eq_true rfl) d_R_load_10 ⟨Nat.zero_le _, Nat.zero_le _⟩ ?_
  refine lv_istore_n (lv' := [(3, .int _), (2, .int _), (0, .ref _), (1, .int _)]) hx hb d_R_load_13 rfl hl (by decide) rfl (fun ls hl => ?_)
  refine lv_aload_n hx hb d_R_load_14 rfl (lv_at hl 2 rfl) ?_
  refine lv_aload_n hx hb d_R_load_15 rfl (lv_at hl 2 rfl) ?_
  refine r_get S hK hP 12 (by decide) fl_R_79 rfl d_R_load_16 ?_
  refine lv_iload_n hx hb d_R_load_19 rfl (lv_at hl 0 rfl) ?_
  refine lv_sipush (v := (1023 : Int32)) hx hb d_R_load_20 (by decide) ?_
  refine lv_iand hx hb d_R_load_23 ?_
  refine lv_iload_n hx hb d_R_load_24 rfl (lv_at hl 0 rfl) ?_
  refine lv_bipush (v := (10 : Int32)) hx hb d_R_load_25 (by decide) ?_
  refine lv_ishr hx hb d_R_load_27 ?_
  refine lv_sipush (v := (1023 : Int32)) hx hb d_R_load_28 (by decide) ?_
  refine lv_iand hx hb d_R_load_31 ?_
  refine lv_iload_n hx hb d_R_load_32 rfl (lv_at hl 1 rfl) ?_
  refine lv_iload_n hx hb d_R_load_33 rfl (lv_at hl 0 rfl) ?_
  refine lv_bipush (v := (24 : Int32)) hx hb d_R_load_34 (by decide) ?_
  refine lv_ishr hx hb d_R_load_36 ?_
  refine lv_sipush (v := (255 : Int32)) hx hb d_R_load_37 (by decide) ?_
  refine lv_iand hx hb d_R_load_40 ?_
  refine c_vV [] S (c_R_set l _ _ _ _ _ _ _ _ _ _ _ _ _ _ _ _ A (rW_D hD) ra ((f_R_word fM (xt + (4 : Int32))) &&& (1023 : Int32)) (((f_R_word fM (xt + (4 : Int32))) >>> ((10 : Int32) &&& 31)) &&& (1023 : Int32)) (f_R_word fM xt) (((f_R_word fM (xt + (4 : Int32))) >>> ((24 : Int32) &&& 31)) &&& (255 : Int32)) (by first | assumption | exact in_k rfl | decide)) mf_R_set ml_R_35 hK hN hP hS 0 3 rfl rfl ⟨rfl, rfl, Nat.le_of_ble_eq_true rfl, Nat.le_of_ble_eq_true rfl⟩ rfl hl.1 rfl (Nat.le_of_ble_eq_true rfl) d_R_load_41 ⟨Nat.zero_le _, Nat.zero_le _⟩ (fun H locs hP hS => ?_)
  refine lv_aload_n hx hb d_R_load_44 rfl (lv_at hl 2 rfl) ?_
  refine r_get S hK hP 8 (by decide) fl_R_32 rfl d_R_load_45 ?_
  refine lv_aload_n hx hb d_R_load_48 rfl (lv_at hl 2 rfl) ?_
  refine r_get S hK hP 12 (by decide) fl_R_79 rfl d_R_load_49 ?_
  refine lv_iload_n hx hb d_R_load_52 rfl (lv_at hl 0 rfl) ?_
  refine lv_bipush (v := (20 : Int32)) hx hb d_R_load_53 (by decide) ?_
  refine lv_ishr hx hb d_R_load_55 ?_
  refine lv_bipush (v := (15 : Int32)) hx hb d_R_load_56 (by decide) ?_
  refine lv_iand hx hb d_R_load_58 ?_
  refine r_ast_y S hK hP (rW_D hD) hS (by first | assumption | exact and7_in _) d_R_load_59 (fun H locs hP hS => ?_)
  refine lv_aload_n hx hb d_R_load_60 rfl (lv_at hl 2 rfl) ?_
  refine r_get S hK hP 3 (by decide) fl_R_17 rfl d_R_load_61 ?_
  refine lv_aload_n hx hb d_R_load_64 rfl (lv_at hl 2 rfl) ?_
  refine r_get S hK hP 12 (by decide) fl_R_79 rfl d_R_load_65 ?_
  refine lv_aload_n hx hb d_R_load_68 rfl (lv_at hl 2 rfl) ?_
  refine r_get S hK hP 2 (by decide) fl_R_13 rfl d_R_load_69 ?_
  refine lv_iload_n hx hb d_R_load_72 rfl (lv_at hl 3 rfl) ?_
  refine lv_bipush (v := (8 : Int32)) hx hb d_R_load_73 (by decide) ?_
  refine lv_idiv hx hb d_R_load_75 (by decide) ?_
  refine r_ald_tag S hK hP (by first | assumption | exact and7_in _) d_R_load_76 ?_
  refine r_ast_vO (z := gT ((xt / (8 : Int32)).toNatClampNeg)) S hK hP (rW_D hD) hS (by first | assumption | exact and7_in _) d_R_load_77 (fun H locs hP hS => ?_)
  have hF : f_R_load ra fM gT cK xt = va_up (f_R_set cK ra ((f_R_word fM (xt + (4 : Int32))) &&& (1023 : Int32)) (((f_R_word fM (xt + (4 : Int32))) >>> ((10 : Int32) &&& 31)) &&& (1023 : Int32)) (f_R_word fM xt) (((f_R_word fM (xt + (4 : Int32))) >>> ((24 : Int32) &&& 31)) &&& (255 : Int32))) ra.toNatClampNeg (s_v (s_y ((f_R_set cK ra ((f_R_word fM (xt + (4 : Int32))) &&& (1023 : Int32)) (((f_R_word fM (xt + (4 : Int32))) >>> ((10 : Int32) &&& 31)) &&& (1023 : Int32)) (f_R_word fM xt) (((f_R_word fM (xt + (4 : Int32))) >>> ((24 : Int32) &&& 31)) &&& (255 : Int32))) ra.toNatClampNeg) (((f_R_word fM (xt + (4 : Int32))) >>> ((20 : Int32) &&& 31)) &&& (15 : Int32))) (gT ((xt / (8 : Int32)).toNatClampNeg))) := rfl
  exact e_wv S hr hlocks hP hS (congrArg (fun z => rW q xa th ca st co ra rb rc im hf rz fM gT z) hF.symm) d_R_load_78
def g_R_store (xt wd : Int32) : Nat → Int32 → (Nat → Int32) → (Nat → Bool) → (Nat → Int32) × (Nat → Bool)
  | 0, _, f, g => (f, g)
  | n + 1, k, f, g => g_R_store xt wd n (k + 1) (upd f (xt + k).toNatClampNeg ((wd >>> (((8 : Int32) * k) &&& 31)) &&& (255 : Int32))) (va_up g ((xt + k) / (8 : Int32)).toNatClampNeg false)
def f_R_store (fM : Nat → Int32) (gT : Nat → Bool) (xt wd ct : Int32) : (Nat → Int32) × (Nat → Bool) := g_R_store xt wd ct.toNatClampNeg 0 fM gT
set_option maxHeartbeats 4000000 in
set_option maxRecDepth 100000 in
theorem lp_R_store {p : Program} {l : Launch} {e : Env} {R : Room} {s : State} {m : MethodId} {args : Array Value} {below : List Frame} {meth : Method} {c : Code} {Q : State → Prop} {D : va_G} {q : Nat → ClassId} {xa : Nat → Nat} {th : Int32} {ca : Int32} {st : Int32} {co : Int32} {ra : Int32} {rb : Int32} {rc : Int32} {im : Int32} {hf : Int32} {rz : Bool} {cK : Nat → Cp} {A : Nat → Prop} {f0 : Nat → Int32} {g0 : Nat → Bool} (S : CallFix p m c b_R_store 5 s args TB R_R) (hK : va_K D cls (tyR q) s) (hD : va_D A (rW q xa th ca st co ra rb rc im hf rz f0 g0 cK)) (xt wd ct : Int32) (hs : As xt ct) (W0 : (Nat → Int32) × (Nat → Bool))
    (ex : ∀ (H : Heap) (locs : List Loc) (ls : Array Slot), va_P D cls (rW q xa th ca st co ra rb rc im hf rz W0.1 W0.2 cK) H → va_S A s.heap H locs → W p l e R s m args below meth c H locs 0 0 Q (F0 m 48 ls [])) :
    ∀ (n : Nat) (k : Int32) (fM : Nat → Int32) (gT : Nat → Bool) (H : Heap) (locs : List Loc) (ls : Array Slot), 0 ≤ k.toInt → k.toInt + (n : Int) = ct.toInt → g_R_store xt wd n k fM gT = W0 → va_P D cls (rW q xa th ca st co ra rb rc im hf rz fM gT cK) H → va_S A s.heap H locs → lv_has ls 5 [(4, .int k), (0, .ref (xa 0)), (1, .int xt), (2, .int wd), (3, .int ct)] → W p l e R s m args below meth c H locs 0 0 Q (F0 m 3 ls []) := by
  have hx := S.1
  have hb := S.2.1
  obtain ⟨hs1, hs2, hs3⟩ := hs
  intro n
  induction n with
  | zero =>
    intro k fM gT H locs ls h0 hk hF hP hS hl
    refine lv_iload hx hb d_R_store_3 (lv_at hl 0 rfl) ?_
    refine lv_iload_n hx hb d_R_store_5 rfl (lv_at hl 4 rfl) ?_
    refine lv_icmp_ge (tgt := 48) hx hb d_R_store_6 rfl (fun _ => ?_) (fun h => ?_)
    · exact ex H locs ls (by rw [← hF]; exact hP) hS
    · exact absurd (Int32.le_iff_toInt_le.mpr (by omega)) h
  | succ n ih =>
    intro k fM gT H locs ls h0 hk hF hP hS hl
    have e1 := ad_s (x := xt) (y := k) (by omega) (by omega)
    have hin : vp_in (xt + k) 512 := vp_in_iff.mpr ⟨by omega, by omega⟩
    have hin2 : vp_in ((xt + k) / (8 : Int32)) 64 := dv_in hin
    refine lv_iload hx hb d_R_store_3 (lv_at hl 0 rfl) ?_
    refine lv_iload_n hx hb d_R_store_5 rfl (lv_at hl 4 rfl) ?_
    refine lv_icmp_ge (tgt := 48) hx hb d_R_store_6 rfl (fun h => ?_) (fun h => ?_)
    · exact absurd (Int32.le_iff_toInt_le.mp h) (by omega)
    · refine lv_aload_n hx hb d_R_store_9 rfl (lv_at hl 1 rfl) ?_
      refine r_get S hK hP 1 (by decide) fl_R_7 rfl d_R_store_10 ?_
      refine lv_iload_n hx hb d_R_store_13 rfl (lv_at hl 2 rfl) ?_
      refine lv_iload hx hb d_R_store_14 (lv_at hl 0 rfl) ?_
      refine lv_iadd hx hb d_R_store_16 ?_
      refine lv_iload_n hx hb d_R_store_17 rfl (lv_at hl 3 rfl) ?_
      refine lv_bipush (v := (8 : Int32)) hx hb d_R_store_18 (by decide) ?_
      refine lv_iload hx hb d_R_store_20 (lv_at hl 0 rfl) ?_
      refine lv_imul hx hb d_R_store_22 ?_
      refine lv_ishr hx hb d_R_store_23 ?_
      refine lv_sipush (v := (255 : Int32)) hx hb d_R_store_24 (by decide) ?_
      refine lv_iand hx hb d_R_store_27 ?_
      refine r_ast_mem S hK hP (rW_D hD) hS (by first | assumption | exact and7_in _) d_R_store_28 (fun H locs hP hS => ?_)
      refine lv_aload_n hx hb d_R_store_29 rfl (lv_at hl 1 rfl) ?_
      refine r_get S hK hP 2 (by decide) fl_R_13 rfl d_R_store_30 ?_
      refine lv_iload_n hx hb d_R_store_33 rfl (lv_at hl 2 rfl) ?_
      refine lv_iload hx hb d_R_store_34 (lv_at hl 0 rfl) ?_
      refine lv_iadd hx hb d_R_store_36 ?_
      refine lv_bipush (v := (8 : Int32)) hx hb d_R_store_37 (by decide) ?_
      refine lv_idiv hx hb d_R_store_39 (by decide) ?_
      refine lv_iconst (v := (0 : Int32)) hx hb d_R_store_40 (by decide) ?_
      refine r_ast_tag (z := false) S hK hP (rW_D hD) hS (by first | assumption | exact and7_in _) d_R_store_41 (fun H locs hP hS => ?_)
      refine lv_iinc (k := 0) (v := k + 1) (lv' := [(4, .int (k + 1)), (0, .ref (xa 0)), (1, .int xt), (2, .int wd), (3, .int ct)]) hx hb d_R_store_42 hl rfl (congrArg (k + ·) (by decide)) (by decide) rfl (fun ls hl => ?_)
      refine lv_goto (tgt := 3) hx hb d_R_store_45 rfl ?_
      have e2 : (k + 1).toInt = k.toInt + 1 := by
        have e1' : (1 : Int32).toInt = 1 := by decide
        have hc := Int32.toInt_lt ct
        exact (ad_s (x := k) (y := 1) (by omega) (by omega)).trans (by omega)
      exact ih (k + 1) _ _ _ _ _ (by omega) (by omega) hF hP hS hl
set_option maxHeartbeats 4000000 in
set_option maxRecDepth 100000 in
theorem c_R_store (l : Launch) (D : va_G) (q : Nat → ClassId) (xa : Nat → Nat) (th : Int32) (ca : Int32) (st : Int32) (co : Int32) (ra : Int32) (rb : Int32) (rc : Int32) (im : Int32) (hf : Int32) (rz : Bool) (fM : Nat → Int32) (gT : Nat → Bool) (cK : Nat → Cp) (A : Nat → Prop) (hD : va_D A (rW q xa th ca st co ra rb rc im hf rz fM gT cK)) (xt wd ct : Int32) (hs : As xt ct) : WMv l y_R_store b_R_store 5 none ({ frames := 0, cells := 0, slots := 0, locals := 0 }) [.ref (xa 0), .int xt, .int wd, .int ct] D (tyR q) (rW q xa th ca st co ra rb rc im hf rz fM gT cK) (rW q xa th ca st co ra rb rc im hf rz (f_R_store fM gT xt wd ct).1 (f_R_store fM gT xt wd ct).2 cK) A := by
  refine ofV (by decide) (Nat.le_of_ble_eq_true rfl) ?_
  intro p e s m below meth c ls S hr hlocks hK hN hP hl
  have hx := S.1
  have hb := S.2.1
  have hS : va_S A s.heap s.heap [] := va_S.rf
  have hl : lv_has ls 5 [(0, .ref (xa 0)), (1, .int xt), (2, .int wd), (3, .int ct)] := hl
  refine lv_iconst (v := (0 : Int32)) hx hb d_R_store_0 (by decide) ?_
  refine lv_istore (lv' := [(4, .int 0), (0, .ref (xa 0)), (1, .int xt), (2, .int wd), (3, .int ct)]) hx hb d_R_store_1 hl (by decide) rfl (fun ls hl => ?_)
  have h2 := hs.2.1
  have hc : ct.toNatClampNeg = ct.toInt.toNat := rfl
  have e0 : (0 : Int32).toInt = 0 := by decide
  exact lp_R_store S hK hD xt wd ct hs (f_R_store fM gT xt wd ct) (fun H locs ls hP hS => e_wv S hr hlocks hP hS rfl d_R_store_48) ct.toNatClampNeg 0 fM gT _ _ ls (by omega) (by omega) rfl hP hS hl
