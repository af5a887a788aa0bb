theorem tw_M_access {q : Nat → ClassId} {xa ad : Nat → Nat} {sS sC : Int32} {F : Int32 × (Nat → Int32) × (Nat → Bool) × (Nat → Cp)} {x : Int32} {a : Nat → Int32} {b : Nat → Bool} {c : Nat → Cp} (h : F = (x, a, b, c)) : mW q xa ad sS sC a b c = mW q xa ad sS sC F.2.1 F.2.2.1 F.2.2.2 := by rw [h]
theorem tv_M_access {F : Int32 × (Nat → Int32) × (Nat → Bool) × (Nat → Cp)} {x : Int32} {a : Nat → Int32} {b : Nat → Bool} {c : Nat → Cp} (h : F = (x, a, b, c)) : x = F.1 := by rw [h]
def f_M_access (fB : Nat → Int32) (gT : Nat → Bool) (cK : Nat → Cp) (cd : Int32) (j1 : Nat) (j2 : Nat) (xl : Int64) : Int32 × (Nat → Int32) × (Nat → Bool) × (Nat → Cp) :=
  if (f_K_refusal cK j2 (f_M_permissionsFor cK cd j1) xl (f_M_bytesOf cd)) = (0 : Int32) then (if cd = (17 : Int32) then ((0 : Int32), fB, gT, (f_K_becomeNumber cK j1 (f_E_byteAt fB xl.toInt32)))
    else if cd = (18 : Int32) then ((0 : Int32), fB, gT, (f_K_becomeNumber cK j1 (f_E_wordAt fB xl.toInt32)))
    else if cd = (19 : Int32) then ((0 : Int32), fB, gT, (f_E_loadCapability fB gT cK xl.toInt32 j1))
    else if cd = (22 : Int32) then ((0 : Int32), (f_E_storeCapability fB gT cK xl.toInt32 j1).1, (f_E_storeCapability fB gT cK xl.toInt32 j1).2, cK)
    else ((0 : Int32), (f_E_store fB gT xl.toInt32 (k_a (cK j1)) (f_M_bytesOf cd)).1, (f_E_store fB gT xl.toInt32 (k_a (cK j1)) (f_M_bytesOf cd)).2, cK))
  else ((f_K_refusal cK j2 (f_M_permissionsFor cK cd j1) xl (f_M_bytesOf cd)), fB, gT, cK)
set_option maxHeartbeats 4000000 in
set_option maxRecDepth 100000 in
theorem c_M_access (l : Launch) (D : va_G) (q : Nat → ClassId) (xa ad : Nat → Nat) (sS : Int32) (sC : Int32) (fB : Nat → Int32) (gT : Nat → Bool) (cK : Nat → Cp) (A : Nat → Prop) (hD : va_D A (mW q xa ad sS sC fB gT cK)) (cd : Int32) (j1 : Nat) (hj1 : j1 < 12) (j2 : Nat) (hj2 : j2 < 12) (xl : Int64) (hg : Rg (cK j2)) (hl0 : -4294967296 ≤ xl.toInt) (hl1 : xl.toInt ≤ 4294967296) : WMi l y_M_access b_M_access 8 (some .int) ({ frames := 3, cells := 0, slots := 0, locals := 64 }) [.ref (xa 0), .int cd, .ref (ad j1), .ref (ad j2), .long xl] D (tyM q) (mW q xa ad sS sC fB gT cK) (mW q xa ad sS sC ((f_M_access fB gT cK cd j1 j2 xl).2.1) ((f_M_access fB gT cK cd j1 j2 xl).2.2.1) ((f_M_access fB gT cK cd j1 j2 xl).2.2.2)) A (((f_M_access fB gT cK cd j1 j2 xl).1)) := by
  refine ofI (by decide) (Nat.le_of_ble_eq_true rfl) ?_
  intro p e s m below meth c ls S hr hlocks hK hN hP hl
  have hx := S.1
  have hb := S.2.1
  have hS : va_S A s.heap s.heap [] := va_S.rf
  have hl : lv_has ls 8 [(0, .ref (xa 0)), (1, .int cd), (2, .ref (ad j1)), (3, .ref (ad j2)), (4, .long xl)] := hl
  refine lv_aload_n hx hb d_M_access_0 rfl (lv_at hl 3 rfl) ?_
  refine lv_iload_n hx hb d_M_access_1 rfl (lv_at hl 1 rfl) ?_
  refine lv_aload_n hx hb d_M_access_2 rfl (lv_at hl 2 rfl) ?_
  refine c_pS [.ref (ad j2)] S (c_M_permissionsFor l _ _ _ _ _ _ _ _ _ cd j1 (by first | assumption | exact and7_lt _)) mf_M_permissionsFor ml_M_188 hK hN hP ⟨rfl, rfl, Nat.le_of_ble_eq_true rfl, Nat.le_of_ble_eq_true rfl⟩ rfl hl.1 rfl (Nat.le_of_ble_eq_true rfl) d_M_access_3 ⟨Nat.zero_le _, Nat.zero_le _⟩ ?_
  refine lv_lload hx hb d_M_access_6 (lv_at hl 4 rfl) ?_
  refine lv_iload_n hx hb d_M_access_8 rfl (lv_at hl 1 rfl) ?_
  refine c_pS [.long xl, .int (f_M_permissionsFor cK cd j1), .ref (ad j2)] S (c_M_bytesOf l _ _ _ _ _ _ _ _ _ cd) mf_M_bytesOf ml_M_192 hK hN hP ⟨rfl, rfl, Nat.le_of_ble_eq_true rfl, Nat.le_of_ble_eq_true rfl⟩ rfl hl.1 rfl (Nat.le_of_ble_eq_true rfl) d_M_access_9 ⟨Nat.zero_le _, Nat.zero_le _⟩ ?_
  refine c_pN [] S (c_K_refusal l _ _ _ _ _ _ _ _ _ j2 (by first | assumption | exact and7_lt _) (f_M_permissionsFor cK cd j1) xl (f_M_bytesOf cd)) mf_K_refusal mn_M_90 hK hN hP (5 + j2) 0 (mW_get (by first | assumption | exact and7_lt _)) rfl ⟨rfl, rfl, Nat.le_of_ble_eq_true rfl, Nat.le_of_ble_eq_true rfl⟩ rfl hl.1 rfl (Nat.le_of_ble_eq_true rfl) d_M_access_12 ⟨Nat.zero_le _, Nat.zero_le _⟩ ?_
  refine lv_istore (lv' := [(6, .int _), (0, .ref _), (1, .int _), (2, .ref _), (3, .ref _), (4, .long _)]) hx hb d_M_access_15 hl (by decide) rfl (fun ls hl => ?_)
  refine lv_iload hx hb d_M_access_17 (lv_at hl 0 rfl) ?_
  refine lv_if_eq (tgt := 25) hx hb d_M_access_19 rfl (fun h_19 => ?_) (fun h_19 => ?_)
  · -- 19: taken
    have hs := (rf_ok h_19 hg (bo_0 cd) hl0 hl1).1
    refine lv_lload hx hb d_M_access_25 (lv_at hl 5 rfl) ?_
    refine lv_l2i (v := xl.toInt32) hx hb d_M_access_27 rfl ?_
    refine lv_istore (lv' := [(7, .int _), (6, .int _), (0, .ref _), (1, .int _), (2, .ref _), (3, .ref _), (4, .long _)]) hx hb d_M_access_28 hl (by decide) rfl (fun ls hl => ?_)
    refine lv_iload_n hx hb d_M_access_30 rfl (lv_at hl 3 rfl) ?_
    by_cases h_31_17 : cd = (17 : Int32)
    · -- 31: case 17
      refine t_in (17 : Int32) (off := 37) (tgt := 68) hx hb d_M_access_31 h_31_17 (by decide) (by decide) (by decide) rfl ?_
      have h0 : vp_in xl.toInt32 512 := bo_17 hs h_31_17
      refine lv_aload_n hx hb d_M_access_68 rfl (lv_at hl 4 rfl) ?_
      refine lv_aload_n hx hb d_M_access_69 rfl (lv_at hl 2 rfl) ?_
      refine m_get S hK hP 5 (by decide) fl_M_32 rfl d_M_access_70 ?_
      refine lv_iload hx hb d_M_access_73 (lv_at hl 0 rfl) ?_
      refine c_pN [.ref (ad j1)] S (c_E_byteAt l _ _ _ _ _ _ _ _ _ xl.toInt32 (by first | assumption | exact in_k rfl | decide)) mf_E_byteAt mn_M_72 hK hN hP 2 1 rfl rfl ⟨rfl, rfl, Nat.le_of_ble_eq_true rfl, Nat.le_of_ble_eq_true rfl⟩ rfl hl.1 rfl (Nat.le_of_ble_eq_true rfl) d_M_access_75 ⟨Nat.zero_le _, Nat.zero_le _⟩ ?_
      refine c_vN [] S (c_K_becomeNumber l _ _ _ _ _ _ _ _ _ A (mW_D hD) j1 (by first | assumption | exact and7_lt _) (f_E_byteAt fB xl.toInt32)) mf_K_becomeNumber mn_M_102 hK hN hP hS (5 + j1) 0 (mW_get (by first | assumption | exact and7_lt _)) rfl ⟨rfl, rfl, Nat.le_of_ble_eq_true rfl, Nat.le_of_ble_eq_true rfl⟩ rfl hl.1 rfl (Nat.le_of_ble_eq_true rfl) d_M_access_78 ⟨Nat.zero_le _, Nat.zero_le _⟩ (fun H locs hP hS => ?_)
      refine lv_goto (tgt := 143) hx hb d_M_access_81 rfl ?_
      refine lv_iconst (v := (0 : Int32)) hx hb d_M_access_143 (by decide) ?_
      have hF : f_M_access fB gT cK cd j1 j2 xl = ((0 : Int32), fB, gT, (f_K_becomeNumber cK j1 (f_E_byteAt fB xl.toInt32))) := (if_pos h_19).trans ((if_pos h_31_17).trans (rfl))
      exact e_wi S hr hlocks hP hS (tv_M_access hF) (tw_M_access hF) d_M_access_144
    by_cases h_31_18 : cd = (18 : Int32)
    · -- 31: case 18
      refine t_in (18 : Int32) (off := 53) (tgt := 84) hx hb d_M_access_31 h_31_18 (by decide) (by decide) (by decide) rfl ?_
      have h0 : Ar xl.toInt32 4 := bo_18 hs h_31_18
      refine lv_aload_n hx hb d_M_access_84 rfl (lv_at hl 4 rfl) ?_
      refine lv_aload_n hx hb d_M_access_85 rfl (lv_at hl 2 rfl) ?_
      refine m_get S hK hP 5 (by decide) fl_M_32 rfl d_M_access_86 ?_
      refine lv_iload hx hb d_M_access_89 (lv_at hl 0 rfl) ?_
      refine c_pN [.ref (ad j1)] S (c_E_wordAt l _ _ _ _ _ _ _ _ _ xl.toInt32 (by first | assumption | exact in_k rfl | decide)) mf_E_wordAt mn_M_195 hK hN hP 2 1 rfl rfl ⟨rfl, rfl, Nat.le_of_ble_eq_true rfl, Nat.le_of_ble_eq_true rfl⟩ rfl hl.1 rfl (Nat.le_of_ble_eq_true rfl) d_M_access_91 ⟨Nat.zero_le _, Nat.zero_le _⟩ ?_
      refine c_vN [] S (c_K_becomeNumber l _ _ _ _ _ _ _ _ _ A (mW_D hD) j1 (by first | assumption | exact and7_lt _) (f_E_wordAt fB xl.toInt32)) mf_K_becomeNumber mn_M_102 hK hN hP hS (5 + j1) 0 (mW_get (by first | assumption | exact and7_lt _)) rfl ⟨rfl, rfl, Nat.le_of_ble_eq_true rfl, Nat.le_of_ble_eq_true rfl⟩ rfl hl.1 rfl (Nat.le_of_ble_eq_true rfl) d_M_access_94 ⟨Nat.zero_le _, Nat.zero_le _⟩ (fun H locs hP hS => ?_)
      refine lv_goto (tgt := 143) hx hb d_M_access_97 rfl ?_
      refine lv_iconst (v := (0 : Int32)) hx hb d_M_access_143 (by decide) ?_
      have hF : f_M_access fB gT cK cd j1 j2 xl = ((0 : Int32), fB, gT, (f_K_becomeNumber cK j1 (f_E_wordAt fB xl.toInt32))) := (if_pos h_19).trans ((if_neg h_31_17).trans ((if_pos h_31_18).trans (rfl)))
      exact e_wi S hr hlocks hP hS (tv_M_access hF) (tw_M_access hF) d_M_access_144
    by_cases h_31_19 : cd = (19 : Int32)
    · -- 31: case 19
      refine t_in (19 : Int32) (off := 69) (tgt := 100) hx hb d_M_access_31 h_31_19 (by decide) (by decide) (by decide) rfl ?_
      have h0 : Ar xl.toInt32 8 := bo_19 hs h_31_19
      refine lv_aload_n hx hb d_M_access_100 rfl (lv_at hl 2 rfl) ?_
      refine m_get S hK hP 5 (by decide) fl_M_32 rfl d_M_access_101 ?_
      refine lv_iload hx hb d_M_access_104 (lv_at hl 0 rfl) ?_
      refine lv_aload_n hx hb d_M_access_106 rfl (lv_at hl 4 rfl) ?_
      refine c_vN [] S (c_E_loadCapability l _ _ _ _ _ _ _ _ _ A (mW_D hD) xl.toInt32 j1 (by first | assumption | exact and7_lt _) (by first | assumption | exact in_k rfl | decide)) mf_E_loadCapability mn_M_198 hK hN hP hS 2 1 rfl rfl ⟨rfl, rfl, Nat.le_of_ble_eq_true rfl, Nat.le_of_ble_eq_true rfl⟩ rfl hl.1 rfl (Nat.le_of_ble_eq_true rfl) d_M_access_107 ⟨Nat.zero_le _, Nat.zero_le _⟩ (fun H locs hP hS => ?_)
      refine lv_goto (tgt := 143) hx hb d_M_access_110 rfl ?_
      refine lv_iconst (v := (0 : Int32)) hx hb d_M_access_143 (by decide) ?_
      have hF : f_M_access fB gT cK cd j1 j2 xl = ((0 : Int32), fB, gT, (f_E_loadCapability fB gT cK xl.toInt32 j1)) := (if_pos h_19).trans ((if_neg h_31_17).trans ((if_neg h_31_18).trans ((if_pos h_31_19).trans (rfl))))
      exact e_wi S hr hlocks hP hS (tv_M_access hF) (tw_M_access hF) d_M_access_144
    by_cases h_31_22 : cd = (22 : Int32)
    · -- 31: case 22
      refine t_in (22 : Int32) (off := 82) (tgt := 113) hx hb d_M_access_31 h_31_22 (by decide) (by decide) (by decide) rfl ?_
      have h0 : Ar xl.toInt32 8 := bo_22 hs h_31_22
      refine lv_aload_n hx hb d_M_access_113 rfl (lv_at hl 2 rfl) ?_
      refine m_get S hK hP 5 (by decide) fl_M_32 rfl d_M_access_114 ?_
      refine lv_iload hx hb d_M_access_117 (lv_at hl 0 rfl) ?_
      refine lv_aload_n hx hb d_M_access_119 rfl (lv_at hl 4 rfl) ?_
      refine c_vN [] S (c_E_storeCapability l _ _ _ _ _ _ _ _ _ A (mW_D hD) xl.toInt32 j1 (by first | assumption | exact and7_lt _) (by first | assumption | exact in_k rfl | decide)) mf_E_storeCapability mn_M_202 hK hN hP hS 2 1 rfl rfl ⟨rfl, rfl, Nat.le_of_ble_eq_true rfl, Nat.le_of_ble_eq_true rfl⟩ rfl hl.1 rfl (Nat.le_of_ble_eq_true rfl) d_M_access_120 ⟨Nat.zero_le _, Nat.zero_le _⟩ (fun H locs hP hS => ?_)
      refine lv_goto (tgt := 143) hx hb d_M_access_123 rfl ?_
      refine lv_iconst (v := (0 : Int32)) hx hb d_M_access_143 (by decide) ?_
      have hF : f_M_access fB gT cK cd j1 j2 xl = ((0 : Int32), (f_E_storeCapability fB gT cK xl.toInt32 j1).1, (f_E_storeCapability fB gT cK xl.toInt32 j1).2, cK) := (if_pos h_19).trans ((if_neg h_31_17).trans ((if_neg h_31_18).trans ((if_neg h_31_19).trans ((if_pos h_31_22).trans (rfl)))))
      exact e_wi S hr hlocks hP hS (tv_M_access hF) (tw_M_access hF) d_M_access_144
    refine t_no [17, 18, 19, 22] (tgt := 126) hx hb d_M_access_31 (List.forall_mem_cons.mpr ⟨lv_neT h_31_17 (by decide), List.forall_mem_cons.mpr ⟨lv_neT h_31_18 (by decide), List.forall_mem_cons.mpr ⟨lv_neT h_31_19 (by decide), List.forall_mem_cons.mpr ⟨lv_neT h_31_22 (by decide), fun _ h => absurd h List.not_mem_nil⟩⟩⟩⟩) (by decide) rfl ?_
    refine lv_aload_n hx hb d_M_access_126 rfl (lv_at hl 2 rfl) ?_
    refine m_get S hK hP 5 (by decide) fl_M_32 rfl d_M_access_127 ?_
    refine lv_iload hx hb d_M_access_130 (lv_at hl 0 rfl) ?_
    refine lv_aload_n hx hb d_M_access_132 rfl (lv_at hl 4 rfl) ?_
    refine k_getN (v := .int (k_a (cK j1))) S hK hP (by first | assumption | exact and7_lt _) 5 (by decide) hN fn_M_87 rfl d_M_access_133 ?_
    refine lv_iload_n hx hb d_M_access_136 rfl (lv_at hl 3 rfl) ?_
    refine c_pS [.int (k_a (cK j1)), .int xl.toInt32, .ref (xa 2)] S (c_M_bytesOf l _ _ _ _ _ _ _ _ _ cd) mf_M_bytesOf ml_M_192 hK hN hP ⟨rfl, rfl, Nat.le_of_ble_eq_true rfl, Nat.le_of_ble_eq_true rfl⟩ rfl hl.1 rfl (Nat.le_of_ble_eq_true rfl) d_M_access_137 ⟨Nat.zero_le _, Nat.zero_le _⟩ ?_
    refine c_vN [] S (c_E_store l _ _ _ _ _ _ _ _ _ A (mW_D hD) xl.toInt32 (k_a (cK j1)) (f_M_bytesOf cd) (by first | assumption | exact in_k rfl | decide)) mf_E_store mn_M_50 hK hN hP hS 2 1 rfl rfl ⟨rfl, rfl, Nat.le_of_ble_eq_true rfl, Nat.le_of_ble_eq_true rfl⟩ rfl hl.1 rfl (Nat.le_of_ble_eq_true rfl) d_M_access_140 ⟨Nat.zero_le _, Nat.zero_le _⟩ (fun H locs hP hS => ?_)
    refine lv_iconst (v := (0 : Int32)) hx hb d_M_access_143 (by decide) ?_
    have hF : f_M_access fB gT cK cd j1 j2 xl = ((0 : Int32), (f_E_store fB gT xl.toInt32 (k_a (cK j1)) (f_M_bytesOf cd)).1, (f_E_store fB gT xl.toInt32 (k_a (cK j1)) (f_M_bytesOf cd)).2, cK) := (if_pos h_19).trans ((if_neg h_31_17).trans ((if_neg h_31_18).trans ((if_neg h_31_19).trans ((if_neg h_31_22).trans (rfl)))))
    exact e_wi S hr hlocks hP hS (tv_M_access hF) (tw_M_access hF) d_M_access_144
  · -- 19: not taken
    refine lv_iload hx hb d_M_access_22 (lv_at hl 0 rfl) ?_
    have hF : f_M_access fB gT cK cd j1 j2 xl = ((f_K_refusal cK j2 (f_M_permissionsFor cK cd j1) xl (f_M_bytesOf cd)), fB, gT, cK) := (if_neg h_19).trans (rfl)
    exact e_wi S hr hlocks hP hS (tv_M_access hF) (tw_M_access hF) d_M_access_24
