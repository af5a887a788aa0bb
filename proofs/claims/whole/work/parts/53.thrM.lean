theorem mn_M_36 : Cond.methodLinkNest "CapMachine" 36 y_K_becomeGranted "CapMachine" ∈ NW := nwT 68 (by decide +kernel) rfl
theorem mf_M_grant : MFv y_M_grant b_M_grant 9 none 5 := ⟨tbT 262 (by decide +kernel) rfl, tbT 1 (by decide +kernel) rfl, tbT 260 (by decide +kernel) rfl, tbT 261 (by decide +kernel) rfl, by decide, by decide, by decide +kernel⟩
theorem mf_M_poke : MFv y_M_poke b_M_poke 4 none 3 := ⟨tbT 330 (by decide +kernel) rfl, tbT 1 (by decide +kernel) rfl, tbT 328 (by decide +kernel) rfl, tbT 329 (by decide +kernel) rfl, by decide, by decide, by decide +kernel⟩
theorem mf_M_look : MFv y_M_look b_M_look 3 (some .int) 2 := ⟨tbT 337 (by decide +kernel) rfl, tbT 1 (by decide +kernel) rfl, tbT 335 (by decide +kernel) rfl, tbT 336 (by decide +kernel) rfl, by decide, by decide, by decide +kernel⟩
theorem mf_M_peek : MFv y_M_peek b_M_peek 2 (some .int) 1 := ⟨tbT 344 (by decide +kernel) rfl, tbT 1 (by decide +kernel) rfl, tbT 342 (by decide +kernel) rfl, tbT 343 (by decide +kernel) rfl, by decide, by decide, by decide +kernel⟩
def f_M_grant (sS : Int32) (cK : Nat → Cp) (r0 : Int32) (nb : Int32) (nt : Int32) (na : Int32) (np : Int32) : Bool × Int32 × (Nat → Cp) :=
  if (if r0 < (0 : Int32) then false else (if (9 : Int32) < r0 then false else true)) = true then (if (if nb < (0 : Int32) then false else (if nt < nb then false else (if (512 : Int32) < nt then false else true))) = true then (if (if np < (0 : Int32) then false else (if (255 : Int32) < np then false else true)) = true then (true, (0 : Int32), (f_K_becomeGranted cK r0.toNatClampNeg nb nt na np))
      else (false, sS, cK))
    else (false, sS, cK))
  else (false, sS, cK)
set_option maxHeartbeats 4000000 in
set_option maxRecDepth 100000 in
theorem c_M_grant (l : Launch) (hla : ∀ e, l.admits e → e.platform.stackTraces = false) (D : va_G) (q : Nat → ClassId) (xa ad : Nat → Nat) (sS : Int32) (sC : Int32) (fB : Nat → Int32) (gT : Nat → Bool) (cK : Nat → Cp) (A : Nat → Prop) (hD : va_D A (mW q xa ad sS sC fB gT cK)) (r0 : Int32) (nb : Int32) (nt : Int32) (na : Int32) (np : Int32) : MetT l y_M_grant (.code y_M_grant b_M_grant 9 none :: TB) ({ frames := 6, cells := 1, slots := 6, locals := 81 }) (va_Pc [.ref (xa 0), .int r0, .int nb, .int nt, .int na, .int np] (PreT D (tyM q) (mW q xa ad sS sC fB gT cK))) (QT ((f_M_grant sS cK r0 nb nt na np).1 = true) none D (mW q xa ad sS sC fB gT cK) (mW q xa ad ((f_M_grant sS cK r0 nb nt na np).2.1) sC fB gT ((f_M_grant sS cK r0 nb nt na np).2.2)) A) 1 6 A := by
  refine ofT hla (by decide) (Nat.le_of_ble_eq_true rfl) ?_
  intro p e s m below meth c ls S hr hlocks hK hN hP hT htr htab hl
  have hx := S.1
  have hb := S.2.1
  have hS : va_S A s.heap s.heap [] := va_S.rf
  have hl : lv_has ls 9 [(0, .ref (xa 0)), (1, .int r0), (2, .int nb), (3, .int nt), (4, .int na), (5, .int np)] := hl
  refine lv_iload_n hx hb d_M_grant_0 rfl (lv_at hl 1 rfl) ?_
  refine jn 15 ls [] (b2i (if r0 < (0 : Int32) then false else (if (9 : Int32) < r0 then false else true))) ?_ (fun k_15 => ?_)
  · -- from 15 on
    refine lv_istore (lv' := [(6, .int _), (0, .ref _), (1, .int _), (2, .int _), (3, .int _), (4, .int _), (5, .int _)]) hx hb d_M_grant_15 hl (by decide) rfl (fun ls hl => ?_)
    refine lv_iload_n hx hb d_M_grant_17 rfl (lv_at hl 3 rfl) ?_
    refine jn 38 ls [] (b2i (if nb < (0 : Int32) then false else (if nt < nb then false else (if (512 : Int32) < nt then false else true)))) ?_ (fun k_38 => ?_)
    · -- from 38 on
      refine lv_istore (lv' := [(7, .int _), (6, .int _), (0, .ref _), (1, .int _), (2, .int _), (3, .int _), (4, .int _), (5, .int _)]) hx hb d_M_grant_38 hl (by decide) rfl (fun ls hl => ?_)
      refine lv_iload hx hb d_M_grant_40 (lv_at hl 7 rfl) ?_
      refine jn 58 ls [] (b2i (if np < (0 : Int32) then false else (if (255 : Int32) < np then false else true))) ?_ (fun k_58 => ?_)
      · -- from 58 on
        refine lv_istore (lv' := [(8, .int _), (7, .int _), (6, .int _), (0, .ref _), (1, .int _), (2, .int _), (3, .int _), (4, .int _), (5, .int _)]) hx hb d_M_grant_58 hl (by decide) rfl (fun ls hl => ?_)
        refine lv_iload hx hb d_M_grant_60 (lv_at hl 2 rfl) ?_
        refine zb_eq (tgt := 75) hx hb d_M_grant_62 rfl (fun h_62 => ?_) (fun h_62 => ?_)
        · -- 62: taken
          have hF : f_M_grant sS cK r0 nb nt na np = (false, sS, cK) := (if_neg (bn_f h_62)).trans (rfl)
          exact th_all S htr hT htab hlocks (fun h => Bool.false_ne_true ((congrArg (fun z => z.1) hF).symm.trans h)) hl.1 d_M_grant_75 d_M_grant_78 d_M_grant_79 d_M_grant_82 (by decide) cl_th in_th it_th
        · -- 62: not taken
          refine lv_iload hx hb d_M_grant_65 (lv_at hl 1 rfl) ?_
          refine zb_eq (tgt := 75) hx hb d_M_grant_67 rfl (fun h_67 => ?_) (fun h_67 => ?_)
          · -- 67: taken
            have hF : f_M_grant sS cK r0 nb nt na np = (false, sS, cK) := (if_pos h_62).trans ((if_neg (bn_f h_67)).trans (rfl))
            exact th_all S htr hT htab hlocks (fun h => Bool.false_ne_true ((congrArg (fun z => z.1) hF).symm.trans h)) hl.1 d_M_grant_75 d_M_grant_78 d_M_grant_79 d_M_grant_82 (by decide) cl_th in_th it_th
          · -- 67: not taken
            refine lv_iload hx hb d_M_grant_70 (lv_at hl 0 rfl) ?_
            refine zb_ne (tgt := 83) hx hb d_M_grant_72 rfl (fun h_72 => ?_) (fun h_72 => ?_)
            · -- 72: taken
              have h0 : vp_in r0 11 := mg_in h_62
              have h1 : r0.toNatClampNeg < 12 := Nat.lt_of_lt_of_le (in_lt h0) (by decide)
              refine lv_aload_n hx hb d_M_grant_83 rfl (lv_at hl 3 rfl) ?_
              refine m_get S hK hP 0 (by decide) fl_M_11 rfl d_M_grant_84 ?_
              refine lv_iload_n hx hb d_M_grant_87 rfl (lv_at hl 4 rfl) ?_
              refine s_ald S hK hP (by first | assumption | exact and7_in _) d_M_grant_88 ?_
              refine lv_iload_n hx hb d_M_grant_89 rfl (lv_at hl 5 rfl) ?_
              refine lv_iload_n hx hb d_M_grant_90 rfl (lv_at hl 6 rfl) ?_
              refine lv_iload hx hb d_M_grant_91 (lv_at hl 7 rfl) ?_
              refine lv_iload hx hb d_M_grant_93 (lv_at hl 8 rfl) ?_
              refine c_vN [] S (c_K_becomeGranted l _ _ _ _ _ _ _ _ _ A (mW_D hD) r0.toNatClampNeg (by first | assumption | exact and7_lt _) nb nt na np) mf_K_becomeGranted mn_M_36 hK hN hP hS (5 + r0.toNatClampNeg) 0 (mW_get (by first | assumption | exact and7_lt _)) rfl ⟨rfl, rfl, Nat.le_of_ble_eq_true rfl, Nat.le_of_ble_eq_true rfl⟩ rfl hl.1 rfl (Nat.le_of_ble_eq_true rfl) d_M_grant_95 ⟨Nat.zero_le _, Nat.zero_le _⟩ (fun H locs hP hS => ?_)
              refine lv_aload_n hx hb d_M_grant_98 rfl (lv_at hl 3 rfl) ?_
              refine lv_iconst (v := (0 : Int32)) hx hb d_M_grant_99 (by decide) ?_
              refine m_putS S hK hP (mW_D hD) hS fl_M_40 d_M_grant_100 (fun H locs hP hS => ?_)
              have hF : f_M_grant sS cK r0 nb nt na np = (true, (0 : Int32), (f_K_becomeGranted cK r0.toNatClampNeg nb nt na np)) := (if_pos h_62).trans ((if_pos h_67).trans ((if_pos h_72).trans (rfl)))
              exact e_tv S hr hlocks hP hS (congrArg (fun z => z.1) hF) (congrArg (fun z => mW q xa ad z.2.1 sC fB gT z.2.2) hF.symm) d_M_grant_103
            · -- 72: not taken
              have hF : f_M_grant sS cK r0 nb nt na np = (false, sS, cK) := (if_pos h_62).trans ((if_pos h_67).trans ((if_neg (bn_f h_72)).trans (rfl)))
              exact th_all S htr hT htab hlocks (fun h => Bool.false_ne_true ((congrArg (fun z => z.1) hF).symm.trans h)) hl.1 d_M_grant_75 d_M_grant_78 d_M_grant_79 d_M_grant_82 (by decide) cl_th in_th it_th
      · -- to 58
        refine lv_if_lt (tgt := 57) hx hb d_M_grant_42 rfl (fun h_42 => ?_) (fun h_42 => ?_)
        · -- 42: taken
          refine lv_iconst (v := (0 : Int32)) hx hb d_M_grant_57 (by decide) ?_
          exact k_58 _ (congrArg b2i ((if_pos h_42).trans (rfl) : (if np < (0 : Int32) then false else (if (255 : Int32) < np then false else true)) = false).symm)
        · -- 42: not taken
          refine lv_iload hx hb d_M_grant_45 (lv_at hl 7 rfl) ?_
          refine lv_sipush (v := (255 : Int32)) hx hb d_M_grant_47 (by decide) ?_
          refine lv_icmp_gt (tgt := 57) hx hb d_M_grant_50 rfl (fun h_50 => ?_) (fun h_50 => ?_)
          · -- 50: taken
            refine lv_iconst (v := (0 : Int32)) hx hb d_M_grant_57 (by decide) ?_
            exact k_58 _ (congrArg b2i ((if_neg h_42).trans ((if_pos h_50).trans (rfl)) : (if np < (0 : Int32) then false else (if (255 : Int32) < np then false else true)) = false).symm)
          · -- 50: not taken
            refine lv_iconst (v := (1 : Int32)) hx hb d_M_grant_53 (by decide) ?_
            refine lv_goto (tgt := 58) hx hb d_M_grant_54 rfl ?_
            exact k_58 _ (congrArg b2i ((if_neg h_42).trans ((if_neg h_50).trans (rfl)) : (if np < (0 : Int32) then false else (if (255 : Int32) < np then false else true)) = true).symm)
    · -- to 38
      refine lv_if_lt (tgt := 37) hx hb d_M_grant_18 rfl (fun h_18 => ?_) (fun h_18 => ?_)
      · -- 18: taken
        refine lv_iconst (v := (0 : Int32)) hx hb d_M_grant_37 (by decide) ?_
        exact k_38 _ (congrArg b2i ((if_pos h_18).trans (rfl) : (if nb < (0 : Int32) then false else (if nt < nb then false else (if (512 : Int32) < nt then false else true))) = false).symm)
      · -- 18: not taken
        refine lv_iload_n hx hb d_M_grant_21 rfl (lv_at hl 3 rfl) ?_
        refine lv_iload_n hx hb d_M_grant_22 rfl (lv_at hl 4 rfl) ?_
        refine lv_icmp_gt (tgt := 37) hx hb d_M_grant_23 rfl (fun h_23 => ?_) (fun h_23 => ?_)
        · -- 23: taken
          refine lv_iconst (v := (0 : Int32)) hx hb d_M_grant_37 (by decide) ?_
          exact k_38 _ (congrArg b2i ((if_neg h_18).trans ((if_pos h_23).trans (rfl)) : (if nb < (0 : Int32) then false else (if nt < nb then false else (if (512 : Int32) < nt then false else true))) = false).symm)
        · -- 23: not taken
          refine lv_iload_n hx hb d_M_grant_26 rfl (lv_at hl 4 rfl) ?_
          refine lv_sipush (v := (512 : Int32)) hx hb d_M_grant_27 (by decide) ?_
          refine lv_icmp_gt (tgt := 37) hx hb d_M_grant_30 rfl (fun h_30 => ?_) (fun h_30 => ?_)
          · -- 30: taken
            refine lv_iconst (v := (0 : Int32)) hx hb d_M_grant_37 (by decide) ?_
            exact k_38 _ (congrArg b2i ((if_neg h_18).trans ((if_neg h_23).trans ((if_pos h_30).trans (rfl))) : (if nb < (0 : Int32) then false else (if nt < nb then false else (if (512 : Int32) < nt then false else true))) = false).symm)
          · -- 30: not taken
            refine lv_iconst (v := (1 : Int32)) hx hb d_M_grant_33 (by decide) ?_
            refine lv_goto (tgt := 38) hx hb d_M_grant_34 rfl ?_
            exact k_38 _ (congrArg b2i ((if_neg h_18).trans ((if_neg h_23).trans ((if_neg h_30).trans (rfl))) : (if nb < (0 : Int32) then false else (if nt < nb then false else (if (512 : Int32) < nt then false else true))) = true).symm)
  · -- to 15
    refine lv_if_lt (tgt := 14) hx hb d_M_grant_1 rfl (fun h_1 => ?_) (fun h_1 => ?_)
    · -- 1: taken
      refine lv_iconst (v := (0 : Int32)) hx hb d_M_grant_14 (by decide) ?_
      exact k_15 _ (congrArg b2i ((if_pos h_1).trans (rfl) : (if r0 < (0 : Int32) then false else (if (9 : Int32) < r0 then false else true)) = false).symm)
    · -- 1: not taken
      refine lv_iload_n hx hb d_M_grant_4 rfl (lv_at hl 1 rfl) ?_
      refine lv_bipush (v := (9 : Int32)) hx hb d_M_grant_5 (by decide) ?_
      refine lv_icmp_gt (tgt := 14) hx hb d_M_grant_7 rfl (fun h_7 => ?_) (fun h_7 => ?_)
      · -- 7: taken
        refine lv_iconst (v := (0 : Int32)) hx hb d_M_grant_14 (by decide) ?_
        exact k_15 _ (congrArg b2i ((if_neg h_1).trans ((if_pos h_7).trans (rfl)) : (if r0 < (0 : Int32) then false else (if (9 : Int32) < r0 then false else true)) = false).symm)
      · -- 7: not taken
        refine lv_iconst (v := (1 : Int32)) hx hb d_M_grant_10 (by decide) ?_
        refine lv_goto (tgt := 15) hx hb d_M_grant_11 rfl ?_
        exact k_15 _ (congrArg b2i ((if_neg h_1).trans ((if_neg h_7).trans (rfl)) : (if r0 < (0 : Int32) then false else (if (9 : Int32) < r0 then false else true)) = true).symm)
def f_M_poke (fB : Nat → Int32) (gT : Nat → Bool) (xt : Int32) (wd : Int32) (bt : Int32) : Bool × (Nat → Int32) × (Nat → Bool) :=
  if bt < (1 : Int32) then (false, fB, gT)
  else if (4 : Int32) < bt then (false, fB, gT)
  else if xt < (0 : Int32) then (false, fB, gT)
  else if xt ≤ ((512 : Int32) - bt) then (true, (f_E_store fB gT xt wd bt).1, (f_E_store fB gT xt wd bt).2)
  else (false, fB, gT)
set_option maxHeartbeats 4000000 in
set_option maxRecDepth 100000 in
theorem c_M_poke (l : Launch) (hla : ∀ e, l.admits e → e.platform.stackTraces = false) (D : va_G) (q : Nat → ClassId) (xa ad : Nat → Nat) (sS : Int32) (sC : Int32) (fB : Nat → Int32) (gT : Nat → Bool) (cK : Nat → Cp) (A : Nat → Prop) (hD : va_D A (mW q xa ad sS sC fB gT cK)) (xt : Int32) (wd : Int32) (bt : Int32) : MetT l y_M_poke (.code y_M_poke b_M_poke 4 none :: TB) ({ frames := 6, cells := 1, slots := 6, locals := 81 }) (va_Pc [.ref (xa 0), .int xt, .int wd, .int bt] (PreT D (tyM q) (mW q xa ad sS sC fB gT cK))) (QT ((f_M_poke fB gT xt wd bt).1 = true) none D (mW q xa ad sS sC fB gT cK) (mW q xa ad sS sC ((f_M_poke fB gT xt wd bt).2.1) ((f_M_poke fB gT xt wd bt).2.2) cK) A) 1 6 A := by
  refine ofT hla (by decide) (Nat.le_of_ble_eq_true rfl) ?_
  intro p e s m below meth c ls S hr hlocks hK hN hP hT htr htab hl
  have hx := S.1
  have hb := S.2.1
  have hS : va_S A s.heap s.heap [] := va_S.rf
  have hl : lv_has ls 4 [(0, .ref (xa 0)), (1, .int xt), (2, .int wd), (3, .int bt)] := hl
  refine lv_iload_n hx hb d_M_poke_0 rfl (lv_at hl 3 rfl) ?_
  refine lv_iconst (v := (1 : Int32)) hx hb d_M_poke_1 (by decide) ?_
  refine lv_icmp_lt (tgt := 23) hx hb d_M_poke_2 rfl (fun h_2 => ?_) (fun h_2 => ?_)
  · -- 2: taken
    have hF : f_M_poke fB gT xt wd bt = (false, fB, gT) := (if_pos h_2).trans (rfl)
    exact th_all S htr hT htab hlocks (fun h => Bool.false_ne_true ((congrArg (fun z => z.1) hF).symm.trans h)) hl.1 d_M_poke_23 d_M_poke_26 d_M_poke_27 d_M_poke_30 (by decide) cl_th in_th it_th
  · -- 2: not taken
    refine lv_iload_n hx hb d_M_poke_5 rfl (lv_at hl 3 rfl) ?_
    refine lv_iconst (v := (4 : Int32)) hx hb d_M_poke_6 (by decide) ?_
    refine lv_icmp_gt (tgt := 23) hx hb d_M_poke_7 rfl (fun h_7 => ?_) (fun h_7 => ?_)
    · -- 7: taken
      have hF : f_M_poke fB gT xt wd bt = (false, fB, gT) := (if_neg h_2).trans ((if_pos h_7).trans (rfl))
      exact th_all S htr hT htab hlocks (fun h => Bool.false_ne_true ((congrArg (fun z => z.1) hF).symm.trans h)) hl.1 d_M_poke_23 d_M_poke_26 d_M_poke_27 d_M_poke_30 (by decide) cl_th in_th it_th
    · -- 7: not taken
      refine lv_iload_n hx hb d_M_poke_10 rfl (lv_at hl 1 rfl) ?_
      refine lv_if_lt (tgt := 23) hx hb d_M_poke_11 rfl (fun h_11 => ?_) (fun h_11 => ?_)
      · -- 11: taken
        have hF : f_M_poke fB gT xt wd bt = (false, fB, gT) := (if_neg h_2).trans ((if_neg h_7).trans ((if_pos h_11).trans (rfl)))
        exact th_all S htr hT htab hlocks (fun h => Bool.false_ne_true ((congrArg (fun z => z.1) hF).symm.trans h)) hl.1 d_M_poke_23 d_M_poke_26 d_M_poke_27 d_M_poke_30 (by decide) cl_th in_th it_th
      · -- 11: not taken
        refine lv_iload_n hx hb d_M_poke_14 rfl (lv_at hl 1 rfl) ?_
        refine lv_sipush (v := (512 : Int32)) hx hb d_M_poke_15 (by decide) ?_
        refine lv_iload_n hx hb d_M_poke_18 rfl (lv_at hl 3 rfl) ?_
        refine lv_isub hx hb d_M_poke_19 ?_
        refine lv_icmp_le (tgt := 31) hx hb d_M_poke_20 rfl (fun h_20 => ?_) (fun h_20 => ?_)
        · -- 20: taken
          have h0 : As xt bt := mp_as h_2 h_7 h_11 h_20
          refine lv_aload_n hx hb d_M_poke_31 rfl (lv_at hl 0 rfl) ?_
          refine m_get S hK hP 5 (by decide) fl_M_32 rfl d_M_poke_32 ?_
          refine lv_iload_n hx hb d_M_poke_35 rfl (lv_at hl 1 rfl) ?_
          refine lv_iload_n hx hb d_M_poke_36 rfl (lv_at hl 2 rfl) ?_
          refine lv_iload_n hx hb d_M_poke_37 rfl (lv_at hl 3 rfl) ?_
          refine c_vN [] S (c_E_store l _ _ _ _ _ _ _ _ _ A (mW_D hD) xt wd bt (by first | assumption | exact in_k rfl | decide)) mf_E_store mn_M_50 hK hN hP hS 2 1 rfl rfl ⟨rfl, rfl, Nat.le_of_ble_eq_true rfl, Nat.le_of_ble_eq_true rfl⟩ rfl hl.1 rfl (Nat.le_of_ble_eq_true rfl) d_M_poke_38 ⟨Nat.zero_le _, Nat.zero_le _⟩ (fun H locs hP hS => ?_)
          have hF : f_M_poke fB gT xt wd bt = (true, (f_E_store fB gT xt wd bt).1, (f_E_store fB gT xt wd bt).2) := (if_neg h_2).trans ((if_neg h_7).trans ((if_neg h_11).trans ((if_pos h_20).trans (rfl))))
          exact e_tv S hr hlocks hP hS (congrArg (fun z => z.1) hF) (congrArg (fun z => mW q xa ad sS sC z.2.1 z.2.2 cK) hF.symm) d_M_poke_41
        · -- 20: not taken
          have hF : f_M_poke fB gT xt wd bt = (false, fB, gT) := (if_neg h_2).trans ((if_neg h_7).trans ((if_neg h_11).trans ((if_neg h_20).trans (rfl))))
          exact th_all S htr hT htab hlocks (fun h => Bool.false_ne_true ((congrArg (fun z => z.1) hF).symm.trans h)) hl.1 d_M_poke_23 d_M_poke_26 d_M_poke_27 d_M_poke_30 (by decide) cl_th in_th it_th
def f_M_look (cK : Nat → Cp) (r0 : Int32) (wh : Int32) : Bool × Int32 :=
  if r0 < (0 : Int32) then (false, (0 : Int32))
  else if (11 : Int32) ≤ r0 then (false, (0 : Int32))
  else if wh < (0 : Int32) then (false, (0 : Int32))
  else if wh ≤ (5 : Int32) then (true, (f_K_part cK r0.toNatClampNeg wh))
  else (false, (0 : Int32))
set_option maxHeartbeats 4000000 in
set_option maxRecDepth 100000 in
theorem c_M_look (l : Launch) (hla : ∀ e, l.admits e → e.platform.stackTraces = false) (D : va_G) (q : Nat → ClassId) (xa ad : Nat → Nat) (sS : Int32) (sC : Int32) (fB : Nat → Int32) (gT : Nat → Bool) (cK : Nat → Cp) (A : Nat → Prop) (hD : va_D A (mW q xa ad sS sC fB gT cK)) (r0 : Int32) (wh : Int32) : MetT l y_M_look (.code y_M_look b_M_look 3 (some .int) :: TB) ({ frames := 6, cells := 1, slots := 6, locals := 81 }) (va_Pc [.ref (xa 0), .int r0, .int wh] (PreT D (tyM q) (mW q xa ad sS sC fB gT cK))) (QT ((f_M_look cK r0 wh).1 = true) (some (.int ((f_M_look cK r0 wh).2))) D (mW q xa ad sS sC fB gT cK) (mW q xa ad sS sC fB gT cK) A) 1 6 A := by
  refine ofT hla (by decide) (Nat.le_of_ble_eq_true rfl) ?_
  intro p e s m below meth c ls S hr hlocks hK hN hP hT htr htab hl
  have hx := S.1
  have hb := S.2.1
  have hS : va_S A s.heap s.heap [] := va_S.rf
  have hl : lv_has ls 3 [(0, .ref (xa 0)), (1, .int r0), (2, .int wh)] := hl
  refine lv_iload_n hx hb d_M_look_0 rfl (lv_at hl 1 rfl) ?_
  refine lv_if_lt (tgt := 19) hx hb d_M_look_1 rfl (fun h_1 => ?_) (fun h_1 => ?_)
  · -- 1: taken
    have hF : f_M_look cK r0 wh = (false, (0 : Int32)) := (if_pos h_1).trans (rfl)
    exact th_all S htr hT htab hlocks (fun h => Bool.false_ne_true ((congrArg (fun z => z.1) hF).symm.trans h)) hl.1 d_M_look_19 d_M_look_22 d_M_look_23 d_M_look_26 (by decide) cl_th in_th it_th
  · -- 1: not taken
    refine lv_iload_n hx hb d_M_look_4 rfl (lv_at hl 1 rfl) ?_
    refine lv_bipush (v := (11 : Int32)) hx hb d_M_look_5 (by decide) ?_
    refine lv_icmp_ge (tgt := 19) hx hb d_M_look_7 rfl (fun h_7 => ?_) (fun h_7 => ?_)
    · -- 7: taken
      have hF : f_M_look cK r0 wh = (false, (0 : Int32)) := (if_neg h_1).trans ((if_pos h_7).trans (rfl))
      exact th_all S htr hT htab hlocks (fun h => Bool.false_ne_true ((congrArg (fun z => z.1) hF).symm.trans h)) hl.1 d_M_look_19 d_M_look_22 d_M_look_23 d_M_look_26 (by decide) cl_th in_th it_th
    · -- 7: not taken
      refine lv_iload_n hx hb d_M_look_10 rfl (lv_at hl 2 rfl) ?_
      refine lv_if_lt (tgt := 19) hx hb d_M_look_11 rfl (fun h_11 => ?_) (fun h_11 => ?_)
      · -- 11: taken
        have hF : f_M_look cK r0 wh = (false, (0 : Int32)) := (if_neg h_1).trans ((if_neg h_7).trans ((if_pos h_11).trans (rfl)))
        exact th_all S htr hT htab hlocks (fun h => Bool.false_ne_true ((congrArg (fun z => z.1) hF).symm.trans h)) hl.1 d_M_look_19 d_M_look_22 d_M_look_23 d_M_look_26 (by decide) cl_th in_th it_th
      · -- 11: not taken
        refine lv_iload_n hx hb d_M_look_14 rfl (lv_at hl 2 rfl) ?_
        refine lv_iconst (v := (5 : Int32)) hx hb d_M_look_15 (by decide) ?_
        refine lv_icmp_le (tgt := 27) hx hb d_M_look_16 rfl (fun h_16 => ?_) (fun h_16 => ?_)
        · -- 16: taken
          have h0 : vp_in r0 11 := in_of h_1 h_7 (by decide)
          have h1 : r0.toNatClampNeg < 12 := Nat.lt_of_lt_of_le (in_lt h0) (by decide)
          refine lv_aload_n hx hb d_M_look_27 rfl (lv_at hl 0 rfl) ?_
          refine m_get S hK hP 0 (by decide) fl_M_11 rfl d_M_look_28 ?_
          refine lv_iload_n hx hb d_M_look_31 rfl (lv_at hl 1 rfl) ?_
          refine s_ald S hK hP (by first | assumption | exact and7_in _) d_M_look_32 ?_
          refine lv_iload_n hx hb d_M_look_33 rfl (lv_at hl 2 rfl) ?_
          refine c_pN [] S (c_K_part l _ _ _ _ _ _ _ _ _ r0.toNatClampNeg (by first | assumption | exact and7_lt _) wh) mf_K_part mn_M_68 hK hN hP (5 + r0.toNatClampNeg) 0 (mW_get (by first | assumption | exact and7_lt _)) rfl ⟨rfl, rfl, Nat.le_of_ble_eq_true rfl, Nat.le_of_ble_eq_true rfl⟩ rfl hl.1 rfl (Nat.le_of_ble_eq_true rfl) d_M_look_34 ⟨Nat.zero_le _, Nat.zero_le _⟩ ?_
          have hF : f_M_look cK r0 wh = (true, (f_K_part cK r0.toNatClampNeg wh)) := (if_neg h_1).trans ((if_neg h_7).trans ((if_neg h_11).trans ((if_pos h_16).trans (rfl))))
          exact e_ti S hr hlocks hP hS (congrArg (fun z => z.1) hF) (congrArg (fun z => some (Value.int z.2)) hF) rfl d_M_look_37
        · -- 16: not taken
          have hF : f_M_look cK r0 wh = (false, (0 : Int32)) := (if_neg h_1).trans ((if_neg h_7).trans ((if_neg h_11).trans ((if_neg h_16).trans (rfl))))
          exact th_all S htr hT htab hlocks (fun h => Bool.false_ne_true ((congrArg (fun z => z.1) hF).symm.trans h)) hl.1 d_M_look_19 d_M_look_22 d_M_look_23 d_M_look_26 (by decide) cl_th in_th it_th
def f_M_peek (fB : Nat → Int32) (xt : Int32) : Bool × Int32 :=
  if xt < (0 : Int32) then (false, (0 : Int32))
  else if xt < (512 : Int32) then (true, (f_E_byteAt fB xt))
  else (false, (0 : Int32))
set_option maxHeartbeats 4000000 in
set_option maxRecDepth 100000 in
theorem c_M_peek (l : Launch) (hla : ∀ e, l.admits e → e.platform.stackTraces = false) (D : va_G) (q : Nat → ClassId) (xa ad : Nat → Nat) (sS : Int32) (sC : Int32) (fB : Nat → Int32) (gT : Nat → Bool) (cK : Nat → Cp) (A : Nat → Prop) (hD : va_D A (mW q xa ad sS sC fB gT cK)) (xt : Int32) : MetT l y_M_peek (.code y_M_peek b_M_peek 2 (some .int) :: TB) ({ frames := 6, cells := 1, slots := 6, locals := 81 }) (va_Pc [.ref (xa 0), .int xt] (PreT D (tyM q) (mW q xa ad sS sC fB gT cK))) (QT ((f_M_peek fB xt).1 = true) (some (.int ((f_M_peek fB xt).2))) D (mW q xa ad sS sC fB gT cK) (mW q xa ad sS sC fB gT cK) A) 1 6 A := by
  refine ofT hla (by decide) (Nat.le_of_ble_eq_true rfl) ?_
  intro p e s m below meth c ls S hr hlocks hK hN hP hT htr htab hl
  have hx := S.1
  have hb := S.2.1
  have hS : va_S A s.heap s.heap [] := va_S.rf
  have hl : lv_has ls 2 [(0, .ref (xa 0)), (1, .int xt)] := hl
  refine lv_iload_n hx hb d_M_peek_0 rfl (lv_at hl 1 rfl) ?_
  refine lv_if_lt (tgt := 11) hx hb d_M_peek_1 rfl (fun h_1 => ?_) (fun h_1 => ?_)
  · -- 1: taken
    have hF : f_M_peek fB xt = (false, (0 : Int32)) := (if_pos h_1).trans (rfl)
    exact th_all S htr hT htab hlocks (fun h => Bool.false_ne_true ((congrArg (fun z => z.1) hF).symm.trans h)) hl.1 d_M_peek_11 d_M_peek_14 d_M_peek_15 d_M_peek_18 (by decide) cl_th in_th it_th
  · -- 1: not taken
    refine lv_iload_n hx hb d_M_peek_4 rfl (lv_at hl 1 rfl) ?_
    refine lv_sipush (v := (512 : Int32)) hx hb d_M_peek_5 (by decide) ?_
    refine lv_icmp_lt (tgt := 19) hx hb d_M_peek_8 rfl (fun h_8 => ?_) (fun h_8 => ?_)
    · -- 8: taken
      have h0 : vp_in xt 512 := mk_in h_1 h_8
      refine lv_aload_n hx hb d_M_peek_19 rfl (lv_at hl 0 rfl) ?_
      refine m_get S hK hP 5 (by decide) fl_M_32 rfl d_M_peek_20 ?_
      refine lv_iload_n hx hb d_M_peek_23 rfl (lv_at hl 1 rfl) ?_
      refine c_pN [] S (c_E_byteAt l _ _ _ _ _ _ _ _ _ xt (by first | assumption | exact in_k rfl | decide)) mf_E_byteAt mn_M_72 hK hN hP 2 1 rfl rfl ⟨rfl, rfl, Nat.le_of_ble_eq_true rfl, Nat.le_of_ble_eq_true rfl⟩ rfl hl.1 rfl (Nat.le_of_ble_eq_true rfl) d_M_peek_24 ⟨Nat.zero_le _, Nat.zero_le _⟩ ?_
      have hF : f_M_peek fB xt = (true, (f_E_byteAt fB xt)) := (if_neg h_1).trans ((if_pos h_8).trans (rfl))
      exact e_ti S hr hlocks hP hS (congrArg (fun z => z.1) hF) (congrArg (fun z => some (Value.int z.2)) hF) rfl d_M_peek_27
    · -- 8: not taken
      have hF : f_M_peek fB xt = (false, (0 : Int32)) := (if_neg h_1).trans ((if_neg h_8).trans (rfl))
      exact th_all S htr hT htab hlocks (fun h => Bool.false_ne_true ((congrArg (fun z => z.1) hF).symm.trans h)) hl.1 d_M_peek_11 d_M_peek_14 d_M_peek_15 d_M_peek_18 (by decide) cl_th in_th it_th
