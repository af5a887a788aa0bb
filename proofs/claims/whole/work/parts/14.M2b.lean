def f_M_compute (fB : Nat → Int32) (gT : Nat → Bool) (cK : Nat → Cp) (cd : Int32) (j1 : Nat) (j2 : Nat) (j3 : Nat) (iv : Int32) : Int32 × (Nat → Int32) × (Nat → Bool) × (Nat → Cp) :=
  if cd < (17 : Int32) then (if cd < (23 : Int32) then (if cd = (2 : Int32) then ((f_M_number cK j1 ((k_a (cK j2)) + (k_a (cK j3)))).1, fB, gT, (f_M_number cK j1 ((k_a (cK j2)) + (k_a (cK j3)))).2)
      else if cd = (3 : Int32) then ((f_M_number cK j1 ((k_a (cK j2)) - (k_a (cK j3)))).1, fB, gT, (f_M_number cK j1 ((k_a (cK j2)) - (k_a (cK j3)))).2)
      else if cd = (7 : Int32) then ((f_M_copy cK j1 j2).1, fB, gT, (f_M_copy cK j1 j2).2)
      else if cd = (8 : Int32) then ((f_M_withAddress cK j1 j2 (k_a (cK j3))).1, fB, gT, (f_M_withAddress cK j1 j2 (k_a (cK j3))).2)
      else if cd = (9 : Int32) then ((f_M_withAddress cK j1 j2 ((k_a (cK j2)) + iv)).1, fB, gT, (f_M_withAddress cK j1 j2 ((k_a (cK j2)) + iv)).2)
      else if cd = (10 : Int32) then ((f_M_withBounds cK j1 j2 (k_a (cK j3)) false).1, fB, gT, (f_M_withBounds cK j1 j2 (k_a (cK j3)) false).2)
      else if cd = (11 : Int32) then ((f_M_withBounds cK j1 j2 (k_a (cK j3)) true).1, fB, gT, (f_M_withBounds cK j1 j2 (k_a (cK j3)) true).2)
      else if cd = (12 : Int32) then ((f_M_withPermissions cK j1 j2 (k_a (cK j3))).1, fB, gT, (f_M_withPermissions cK j1 j2 (k_a (cK j3))).2)
      else if cd = (13 : Int32) then ((f_M_seal cK j1 j2 j3).1, fB, gT, (f_M_seal cK j1 j2 j3).2)
      else if cd = (14 : Int32) then ((f_M_unseal cK j1 j2 j3).1, fB, gT, (f_M_unseal cK j1 j2 j3).2)
      else if cd = (15 : Int32) then ((f_M_makeEntry cK j1 j2).1, fB, gT, (f_M_makeEntry cK j1 j2).2)
      else if cd = (29 : Int32) then ((f_M_withoutTag cK j1 j2).1, fB, gT, (f_M_withoutTag cK j1 j2).2)
      else if cd = (30 : Int32) then ((f_M_number cK j1 (b2i (if (f_K_isWithin cK j2 j3) = true then true else false))).1, fB, gT, (f_M_number cK j1 (b2i (if (f_K_isWithin cK j2 j3) = true then true else false))).2)
      else if cd = (31 : Int32) then ((f_M_withAddress cK j1 8 ((k_a (cK 8)) + ((4 : Int32) * iv))).1, fB, gT, (f_M_withAddress cK j1 8 ((k_a (cK 8)) + ((4 : Int32) * iv))).2)
      else if cd = (32 : Int32) then ((f_M_setHandler cK j1).1, fB, gT, (f_M_setHandler cK j1).2)
      else ((8 : Int32), fB, gT, cK))
    else if (28 : Int32) < cd then (if cd = (2 : Int32) then ((f_M_number cK j1 ((k_a (cK j2)) + (k_a (cK j3)))).1, fB, gT, (f_M_number cK j1 ((k_a (cK j2)) + (k_a (cK j3)))).2)
      else if cd = (3 : Int32) then ((f_M_number cK j1 ((k_a (cK j2)) - (k_a (cK j3)))).1, fB, gT, (f_M_number cK j1 ((k_a (cK j2)) - (k_a (cK j3)))).2)
      else if cd = (7 : Int32) then ((f_M_copy cK j1 j2).1, fB, gT, (f_M_copy cK j1 j2).2)
      else if cd = (8 : Int32) then ((f_M_withAddress cK j1 j2 (k_a (cK j3))).1, fB, gT, (f_M_withAddress cK j1 j2 (k_a (cK j3))).2)
      else if cd = (9 : Int32) then ((f_M_withAddress cK j1 j2 ((k_a (cK j2)) + iv)).1, fB, gT, (f_M_withAddress cK j1 j2 ((k_a (cK j2)) + iv)).2)
      else if cd = (10 : Int32) then ((f_M_withBounds cK j1 j2 (k_a (cK j3)) false).1, fB, gT, (f_M_withBounds cK j1 j2 (k_a (cK j3)) false).2)
      else if cd = (11 : Int32) then ((f_M_withBounds cK j1 j2 (k_a (cK j3)) true).1, fB, gT, (f_M_withBounds cK j1 j2 (k_a (cK j3)) true).2)
      else if cd = (12 : Int32) then ((f_M_withPermissions cK j1 j2 (k_a (cK j3))).1, fB, gT, (f_M_withPermissions cK j1 j2 (k_a (cK j3))).2)
      else if cd = (13 : Int32) then ((f_M_seal cK j1 j2 j3).1, fB, gT, (f_M_seal cK j1 j2 j3).2)
      else if cd = (14 : Int32) then ((f_M_unseal cK j1 j2 j3).1, fB, gT, (f_M_unseal cK j1 j2 j3).2)
      else if cd = (15 : Int32) then ((f_M_makeEntry cK j1 j2).1, fB, gT, (f_M_makeEntry cK j1 j2).2)
      else if cd = (29 : Int32) then ((f_M_withoutTag cK j1 j2).1, fB, gT, (f_M_withoutTag cK j1 j2).2)
      else if cd = (30 : Int32) then ((f_M_number cK j1 (b2i (if (f_K_isWithin cK j2 j3) = true then true else false))).1, fB, gT, (f_M_number cK j1 (b2i (if (f_K_isWithin cK j2 j3) = true then true else false))).2)
      else if cd = (31 : Int32) then ((f_M_withAddress cK j1 8 ((k_a (cK 8)) + ((4 : Int32) * iv))).1, fB, gT, (f_M_withAddress cK j1 8 ((k_a (cK 8)) + ((4 : Int32) * iv))).2)
      else if cd = (32 : Int32) then ((f_M_setHandler cK j1).1, fB, gT, (f_M_setHandler cK j1).2)
      else ((8 : Int32), fB, gT, cK))
    else ((f_M_number cK j1 (f_K_part cK j2 (cd - (23 : Int32)))).1, fB, gT, (f_M_number cK j1 (f_K_part cK j2 (cd - (23 : Int32)))).2))
  else if (22 : Int32) < cd then (if cd < (23 : Int32) then (if cd = (2 : Int32) then ((f_M_number cK j1 ((k_a (cK j2)) + (k_a (cK j3)))).1, fB, gT, (f_M_number cK j1 ((k_a (cK j2)) + (k_a (cK j3)))).2)
      else if cd = (3 : Int32) then ((f_M_number cK j1 ((k_a (cK j2)) - (k_a (cK j3)))).1, fB, gT, (f_M_number cK j1 ((k_a (cK j2)) - (k_a (cK j3)))).2)
      else if cd = (7 : Int32) then ((f_M_copy cK j1 j2).1, fB, gT, (f_M_copy cK j1 j2).2)
      else if cd = (8 : Int32) then ((f_M_withAddress cK j1 j2 (k_a (cK j3))).1, fB, gT, (f_M_withAddress cK j1 j2 (k_a (cK j3))).2)
      else if cd = (9 : Int32) then ((f_M_withAddress cK j1 j2 ((k_a (cK j2)) + iv)).1, fB, gT, (f_M_withAddress cK j1 j2 ((k_a (cK j2)) + iv)).2)
      else if cd = (10 : Int32) then ((f_M_withBounds cK j1 j2 (k_a (cK j3)) false).1, fB, gT, (f_M_withBounds cK j1 j2 (k_a (cK j3)) false).2)
      else if cd = (11 : Int32) then ((f_M_withBounds cK j1 j2 (k_a (cK j3)) true).1, fB, gT, (f_M_withBounds cK j1 j2 (k_a (cK j3)) true).2)
      else if cd = (12 : Int32) then ((f_M_withPermissions cK j1 j2 (k_a (cK j3))).1, fB, gT, (f_M_withPermissions cK j1 j2 (k_a (cK j3))).2)
      else if cd = (13 : Int32) then ((f_M_seal cK j1 j2 j3).1, fB, gT, (f_M_seal cK j1 j2 j3).2)
      else if cd = (14 : Int32) then ((f_M_unseal cK j1 j2 j3).1, fB, gT, (f_M_unseal cK j1 j2 j3).2)
      else if cd = (15 : Int32) then ((f_M_makeEntry cK j1 j2).1, fB, gT, (f_M_makeEntry cK j1 j2).2)
      else if cd = (29 : Int32) then ((f_M_withoutTag cK j1 j2).1, fB, gT, (f_M_withoutTag cK j1 j2).2)
      else if cd = (30 : Int32) then ((f_M_number cK j1 (b2i (if (f_K_isWithin cK j2 j3) = true then true else false))).1, fB, gT, (f_M_number cK j1 (b2i (if (f_K_isWithin cK j2 j3) = true then true else false))).2)
      else if cd = (31 : Int32) then ((f_M_withAddress cK j1 8 ((k_a (cK 8)) + ((4 : Int32) * iv))).1, fB, gT, (f_M_withAddress cK j1 8 ((k_a (cK 8)) + ((4 : Int32) * iv))).2)
      else if cd = (32 : Int32) then ((f_M_setHandler cK j1).1, fB, gT, (f_M_setHandler cK j1).2)
      else ((8 : Int32), fB, gT, cK))
    else if (28 : Int32) < cd then (if cd = (2 : Int32) then ((f_M_number cK j1 ((k_a (cK j2)) + (k_a (cK j3)))).1, fB, gT, (f_M_number cK j1 ((k_a (cK j2)) + (k_a (cK j3)))).2)
      else if cd = (3 : Int32) then ((f_M_number cK j1 ((k_a (cK j2)) - (k_a (cK j3)))).1, fB, gT, (f_M_number cK j1 ((k_a (cK j2)) - (k_a (cK j3)))).2)
      else if cd = (7 : Int32) then ((f_M_copy cK j1 j2).1, fB, gT, (f_M_copy cK j1 j2).2)
      else if cd = (8 : Int32) then ((f_M_withAddress cK j1 j2 (k_a (cK j3))).1, fB, gT, (f_M_withAddress cK j1 j2 (k_a (cK j3))).2)
      else if cd = (9 : Int32) then ((f_M_withAddress cK j1 j2 ((k_a (cK j2)) + iv)).1, fB, gT, (f_M_withAddress cK j1 j2 ((k_a (cK j2)) + iv)).2)
      else if cd = (10 : Int32) then ((f_M_withBounds cK j1 j2 (k_a (cK j3)) false).1, fB, gT, (f_M_withBounds cK j1 j2 (k_a (cK j3)) false).2)
      else if cd = (11 : Int32) then ((f_M_withBounds cK j1 j2 (k_a (cK j3)) true).1, fB, gT, (f_M_withBounds cK j1 j2 (k_a (cK j3)) true).2)
      else if cd = (12 : Int32) then ((f_M_withPermissions cK j1 j2 (k_a (cK j3))).1, fB, gT, (f_M_withPermissions cK j1 j2 (k_a (cK j3))).2)
      else if cd = (13 : Int32) then ((f_M_seal cK j1 j2 j3).1, fB, gT, (f_M_seal cK j1 j2 j3).2)
      else if cd = (14 : Int32) then ((f_M_unseal cK j1 j2 j3).1, fB, gT, (f_M_unseal cK j1 j2 j3).2)
      else if cd = (15 : Int32) then ((f_M_makeEntry cK j1 j2).1, fB, gT, (f_M_makeEntry cK j1 j2).2)
      else if cd = (29 : Int32) then ((f_M_withoutTag cK j1 j2).1, fB, gT, (f_M_withoutTag cK j1 j2).2)
      else if cd = (30 : Int32) then ((f_M_number cK j1 (b2i (if (f_K_isWithin cK j2 j3) = true then true else false))).1, fB, gT, (f_M_number cK j1 (b2i (if (f_K_isWithin cK j2 j3) = true then true else false))).2)
      else if cd = (31 : Int32) then ((f_M_withAddress cK j1 8 ((k_a (cK 8)) + ((4 : Int32) * iv))).1, fB, gT, (f_M_withAddress cK j1 8 ((k_a (cK 8)) + ((4 : Int32) * iv))).2)
      else if cd = (32 : Int32) then ((f_M_setHandler cK j1).1, fB, gT, (f_M_setHandler cK j1).2)
      else ((8 : Int32), fB, gT, cK))
    else ((f_M_number cK j1 (f_K_part cK j2 (cd - (23 : Int32)))).1, fB, gT, (f_M_number cK j1 (f_K_part cK j2 (cd - (23 : Int32)))).2))
  else ((f_M_access fB gT cK cd j1 j2 (((k_a (cK j2)).toInt64) + iv.toInt64)).1, (f_M_access fB gT cK cd j1 j2 (((k_a (cK j2)).toInt64) + iv.toInt64)).2.1, (f_M_access fB gT cK cd j1 j2 (((k_a (cK j2)).toInt64) + iv.toInt64)).2.2.1, (f_M_access fB gT cK cd j1 j2 (((k_a (cK j2)).toInt64) + iv.toInt64)).2.2.2)
set_option maxHeartbeats 4000000 in
set_option maxRecDepth 100000 in
theorem c_M_compute (l : Launch) (D : va_G) (q : Nat → ClassId) (xa ad : Nat → Nat) (sS : Int32) (sC : Int32) (fB : Nat → Int32) (gT : Nat → Bool) (cK : Nat → Cp) (A : Nat → Prop) (hD : va_D A (mW q xa ad sS sC fB gT cK)) (cd : Int32) (j1 : Nat) (hj1 : j1 < 12) (j2 : Nat) (hj2 : j2 < 12) (j3 : Nat) (hj3 : j3 < 12) (iv : Int32) (hg : Rg (cK j2)) : WMi l y_M_compute b_M_compute 6 (some .int) ({ frames := 4, cells := 0, slots := 0, locals := 91 }) [.ref (xa 0), .int cd, .ref (ad j1), .ref (ad j2), .ref (ad j3), .int iv] D (tyM q) (mW q xa ad sS sC fB gT cK) (mW q xa ad sS sC ((f_M_compute fB gT cK cd j1 j2 j3 iv).2.1) ((f_M_compute fB gT cK cd j1 j2 j3 iv).2.2.1) ((f_M_compute fB gT cK cd j1 j2 j3 iv).2.2.2)) A (((f_M_compute fB gT cK cd j1 j2 j3 iv).1)) := by
  refine ofI (by decide) (Nat.le_of_ble_eq_true rfl) ?_
  intro p e s m below meth c ls S hr hlocks hK hN hP hl
  have hx := S.1
  have hb := S.2.1
  have hS : va_S A s.heap s.heap [] := va_S.rf
  have hl : lv_has ls 6 [(0, .ref (xa 0)), (1, .int cd), (2, .ref (ad j1)), (3, .ref (ad j2)), (4, .ref (ad j3)), (5, .int iv)] := hl
  refine lv_iload_n hx hb d_M_compute_0 rfl (lv_at hl 1 rfl) ?_
  refine lv_bipush (v := (17 : Int32)) hx hb d_M_compute_1 (by decide) ?_
  refine lv_icmp_lt (tgt := 29) hx hb d_M_compute_3 rfl (fun h_3 => ?_) (fun h_3 => ?_)
  · -- 3: taken
    refine lv_iload_n hx hb d_M_compute_29 rfl (lv_at hl 1 rfl) ?_
    refine lv_bipush (v := (23 : Int32)) hx hb d_M_compute_30 (by decide) ?_
    refine lv_icmp_lt (tgt := 54) hx hb d_M_compute_32 rfl (fun h_32 => ?_) (fun h_32 => ?_)
    · -- 32: taken
      refine lv_iload_n hx hb d_M_compute_54 rfl (lv_at hl 1 rfl) ?_
      by_cases h_55_2 : cd = (2 : Int32)
      · -- 55: case 2
        refine t_in (2 : Int32) (off := 137) (tgt := 192) hx hb d_M_compute_55 h_55_2 (by decide) (by decide) (by decide) rfl ?_
        refine lv_aload_n hx hb d_M_compute_192 rfl (lv_at hl 2 rfl) ?_
        refine lv_aload_n hx hb d_M_compute_193 rfl (lv_at hl 3 rfl) ?_
        refine k_getN (v := .int (k_a (cK j2))) S hK hP (by first | assumption | exact and7_lt _) 5 (by decide) hN fn_M_87 rfl d_M_compute_194 ?_
        refine lv_aload hx hb d_M_compute_197 (lv_at hl 4 rfl) ?_
        refine k_getN (v := .int (k_a (cK j3))) S hK hP (by first | assumption | exact and7_lt _) 5 (by decide) hN fn_M_87 rfl d_M_compute_199 ?_
        refine lv_iadd hx hb d_M_compute_202 ?_
        refine c_iS [] S (c_M_number l _ _ _ _ _ _ _ _ _ A (mW_D hD) j1 (by first | assumption | exact and7_lt _) ((k_a (cK j2)) + (k_a (cK j3)))) mf_M_number ml_M_126 hK hN hP hS ⟨rfl, rfl, Nat.le_of_ble_eq_true rfl, Nat.le_of_ble_eq_true rfl⟩ rfl hl.1 rfl (Nat.le_of_ble_eq_true rfl) d_M_compute_203 ⟨Nat.zero_le _, Nat.zero_le _⟩ (fun H locs hP hS => ?_)
        have hF : f_M_compute fB gT cK cd j1 j2 j3 iv = ((f_M_number cK j1 ((k_a (cK j2)) + (k_a (cK j3)))).1, fB, gT, (f_M_number cK j1 ((k_a (cK j2)) + (k_a (cK j3)))).2) := (if_pos h_3).trans ((if_pos h_32).trans ((if_pos h_55_2).trans (rfl)))
        exact e_wi S hr hlocks hP hS (congrArg (fun z => z.1) hF.symm) (congrArg (fun z => mW q xa ad sS sC z.2.1 z.2.2.1 z.2.2.2) hF.symm) d_M_compute_206
      by_cases h_55_3 : cd = (3 : Int32)
      · -- 55: case 3
        refine t_in (3 : Int32) (off := 152) (tgt := 207) hx hb d_M_compute_55 h_55_3 (by decide) (by decide) (by decide) rfl ?_
        refine lv_aload_n hx hb d_M_compute_207 rfl (lv_at hl 2 rfl) ?_
        refine lv_aload_n hx hb d_M_compute_208 rfl (lv_at hl 3 rfl) ?_
        refine k_getN (v := .int (k_a (cK j2))) S hK hP (by first | assumption | exact and7_lt _) 5 (by decide) hN fn_M_87 rfl d_M_compute_209 ?_
        refine lv_aload hx hb d_M_compute_212 (lv_at hl 4 rfl) ?_
        refine k_getN (v := .int (k_a (cK j3))) S hK hP (by first | assumption | exact and7_lt _) 5 (by decide) hN fn_M_87 rfl d_M_compute_214 ?_
        refine lv_isub hx hb d_M_compute_217 ?_
        refine c_iS [] S (c_M_number l _ _ _ _ _ _ _ _ _ A (mW_D hD) j1 (by first | assumption | exact and7_lt _) ((k_a (cK j2)) - (k_a (cK j3)))) mf_M_number ml_M_126 hK hN hP hS ⟨rfl, rfl, Nat.le_of_ble_eq_true rfl, Nat.le_of_ble_eq_true rfl⟩ rfl hl.1 rfl (Nat.le_of_ble_eq_true rfl) d_M_compute_218 ⟨Nat.zero_le _, Nat.zero_le _⟩ (fun H locs hP hS => ?_)
        have hF : f_M_compute fB gT cK cd j1 j2 j3 iv = ((f_M_number cK j1 ((k_a (cK j2)) - (k_a (cK j3)))).1, fB, gT, (f_M_number cK j1 ((k_a (cK j2)) - (k_a (cK j3)))).2) := (if_pos h_3).trans ((if_pos h_32).trans ((if_neg h_55_2).trans ((if_pos h_55_3).trans (rfl))))
        exact e_wi S hr hlocks hP hS (congrArg (fun z => z.1) hF.symm) (congrArg (fun z => mW q xa ad sS sC z.2.1 z.2.2.1 z.2.2.2) hF.symm) d_M_compute_221
      by_cases h_55_7 : cd = (7 : Int32)
      · -- 55: case 7
        refine t_in (7 : Int32) (off := 167) (tgt := 222) hx hb d_M_compute_55 h_55_7 (by decide) (by decide) (by decide) rfl ?_
        refine lv_aload_n hx hb d_M_compute_222 rfl (lv_at hl 2 rfl) ?_
        refine lv_aload_n hx hb d_M_compute_223 rfl (lv_at hl 3 rfl) ?_
        refine c_iS [] S (c_M_copy l _ _ _ _ _ _ _ _ _ A (mW_D hD) j1 (by first | assumption | exact and7_lt _) j2 (by first | assumption | exact and7_lt _)) mf_M_copy ml_M_130 hK hN hP hS ⟨rfl, rfl, Nat.le_of_ble_eq_true rfl, Nat.le_of_ble_eq_true rfl⟩ rfl hl.1 rfl (Nat.le_of_ble_eq_true rfl) d_M_compute_224 ⟨Nat.zero_le _, Nat.zero_le _⟩ (fun H locs hP hS => ?_)
        have hF : f_M_compute fB gT cK cd j1 j2 j3 iv = ((f_M_copy cK j1 j2).1, fB, gT, (f_M_copy cK j1 j2).2) := (if_pos h_3).trans ((if_pos h_32).trans ((if_neg h_55_2).trans ((if_neg h_55_3).trans ((if_pos h_55_7).trans (rfl)))))
        exact e_wi S hr hlocks hP hS (congrArg (fun z => z.1) hF.symm) (congrArg (fun z => mW q xa ad sS sC z.2.1 z.2.2.1 z.2.2.2) hF.symm) d_M_compute_227
      by_cases h_55_8 : cd = (8 : Int32)
      · -- 55: case 8
        refine t_in (8 : Int32) (off := 173) (tgt := 228) hx hb d_M_compute_55 h_55_8 (by decide) (by decide) (by decide) rfl ?_
        refine lv_aload_n hx hb d_M_compute_228 rfl (lv_at hl 2 rfl) ?_
        refine lv_aload_n hx hb d_M_compute_229 rfl (lv_at hl 3 rfl) ?_
        refine lv_aload hx hb d_M_compute_230 (lv_at hl 4 rfl) ?_
        refine k_getN (v := .int (k_a (cK j3))) S hK hP (by first | assumption | exact and7_lt _) 5 (by decide) hN fn_M_87 rfl d_M_compute_232 ?_
        refine c_iS [] S (c_M_withAddress l _ _ _ _ _ _ _ _ _ A (mW_D hD) j1 (by first | assumption | exact and7_lt _) j2 (by first | assumption | exact and7_lt _) (k_a (cK j3))) mf_M_withAddress ml_M_133 hK hN hP hS ⟨rfl, rfl, Nat.le_of_ble_eq_true rfl, Nat.le_of_ble_eq_true rfl⟩ rfl hl.1 rfl (Nat.le_of_ble_eq_true rfl) d_M_compute_235 ⟨Nat.zero_le _, Nat.zero_le _⟩ (fun H locs hP hS => ?_)
        have hF : f_M_compute fB gT cK cd j1 j2 j3 iv = ((f_M_withAddress cK j1 j2 (k_a (cK j3))).1, fB, gT, (f_M_withAddress cK j1 j2 (k_a (cK j3))).2) := (if_pos h_3).trans ((if_pos h_32).trans ((if_neg h_55_2).trans ((if_neg h_55_3).trans ((if_neg h_55_7).trans ((if_pos h_55_8).trans (rfl))))))
        exact e_wi S hr hlocks hP hS (congrArg (fun z => z.1) hF.symm) (congrArg (fun z => mW q xa ad sS sC z.2.1 z.2.2.1 z.2.2.2) hF.symm) d_M_compute_238
      by_cases h_55_9 : cd = (9 : Int32)
      · -- 55: case 9
        refine t_in (9 : Int32) (off := 184) (tgt := 239) hx hb d_M_compute_55 h_55_9 (by decide) (by decide) (by decide) rfl ?_
        refine lv_aload_n hx hb d_M_compute_239 rfl (lv_at hl 2 rfl) ?_
        refine lv_aload_n hx hb d_M_compute_240 rfl (lv_at hl 3 rfl) ?_
        refine lv_aload_n hx hb d_M_compute_241 rfl (lv_at hl 3 rfl) ?_
        refine k_getN (v := .int (k_a (cK j2))) S hK hP (by first | assumption | exact and7_lt _) 5 (by decide) hN fn_M_87 rfl d_M_compute_242 ?_
        refine lv_iload hx hb d_M_compute_245 (lv_at hl 5 rfl) ?_
        refine lv_iadd hx hb d_M_compute_247 ?_
        refine c_iS [] S (c_M_withAddress l _ _ _ _ _ _ _ _ _ A (mW_D hD) j1 (by first | assumption | exact and7_lt _) j2 (by first | assumption | exact and7_lt _) ((k_a (cK j2)) + iv)) mf_M_withAddress ml_M_133 hK hN hP hS ⟨rfl, rfl, Nat.le_of_ble_eq_true rfl, Nat.le_of_ble_eq_true rfl⟩ rfl hl.1 rfl (Nat.le_of_ble_eq_true rfl) d_M_compute_248 ⟨Nat.zero_le _, Nat.zero_le _⟩ (fun H locs hP hS => ?_)
        have hF : f_M_compute fB gT cK cd j1 j2 j3 iv = ((f_M_withAddress cK j1 j2 ((k_a (cK j2)) + iv)).1, fB, gT, (f_M_withAddress cK j1 j2 ((k_a (cK j2)) + iv)).2) := (if_pos h_3).trans ((if_pos h_32).trans ((if_neg h_55_2).trans ((if_neg h_55_3).trans ((if_neg h_55_7).trans ((if_neg h_55_8).trans ((if_pos h_55_9).trans (rfl)))))))
        exact e_wi S hr hlocks hP hS (congrArg (fun z => z.1) hF.symm) (congrArg (fun z => mW q xa ad sS sC z.2.1 z.2.2.1 z.2.2.2) hF.symm) d_M_compute_251
      by_cases h_55_10 : cd = (10 : Int32)
      · -- 55: case 10
        refine t_in (10 : Int32) (off := 197) (tgt := 252) hx hb d_M_compute_55 h_55_10 (by decide) (by decide) (by decide) rfl ?_
        refine lv_aload_n hx hb d_M_compute_252 rfl (lv_at hl 2 rfl) ?_
        refine lv_aload_n hx hb d_M_compute_253 rfl (lv_at hl 3 rfl) ?_
        refine lv_aload hx hb d_M_compute_254 (lv_at hl 4 rfl) ?_
        refine k_getN (v := .int (k_a (cK j3))) S hK hP (by first | assumption | exact and7_lt _) 5 (by decide) hN fn_M_87 rfl d_M_compute_256 ?_
        refine lv_iconst (v := (0 : Int32)) hx hb d_M_compute_259 (by decide) ?_
        refine c_iS [] S (c_M_withBounds l _ _ _ _ _ _ _ _ _ A (mW_D hD) j1 (by first | assumption | exact and7_lt _) j2 (by first | assumption | exact and7_lt _) (k_a (cK j3)) false) mf_M_withBounds ml_M_137 hK hN hP hS ⟨rfl, rfl, Nat.le_of_ble_eq_true rfl, Nat.le_of_ble_eq_true rfl⟩ rfl hl.1 rfl (Nat.le_of_ble_eq_true rfl) d_M_compute_260 ⟨Nat.zero_le _, Nat.zero_le _⟩ (fun H locs hP hS => ?_)
        have hF : f_M_compute fB gT cK cd j1 j2 j3 iv = ((f_M_withBounds cK j1 j2 (k_a (cK j3)) false).1, fB, gT, (f_M_withBounds cK j1 j2 (k_a (cK j3)) false).2) := (if_pos h_3).trans ((if_pos h_32).trans ((if_neg h_55_2).trans ((if_neg h_55_3).trans ((if_neg h_55_7).trans ((if_neg h_55_8).trans ((if_neg h_55_9).trans ((if_pos h_55_10).trans (rfl))))))))
        exact e_wi S hr hlocks hP hS (congrArg (fun z => z.1) hF.symm) (congrArg (fun z => mW q xa ad sS sC z.2.1 z.2.2.1 z.2.2.2) hF.symm) d_M_compute_263
      by_cases h_55_11 : cd = (11 : Int32)
      · -- 55: case 11
        refine t_in (11 : Int32) (off := 209) (tgt := 264) hx hb d_M_compute_55 h_55_11 (by decide) (by decide) (by decide) rfl ?_
        refine lv_aload_n hx hb d_M_compute_264 rfl (lv_at hl 2 rfl) ?_
        refine lv_aload_n hx hb d_M_compute_265 rfl (lv_at hl 3 rfl) ?_
        refine lv_aload hx hb d_M_compute_266 (lv_at hl 4 rfl) ?_
        refine k_getN (v := .int (k_a (cK j3))) S hK hP (by first | assumption | exact and7_lt _) 5 (by decide) hN fn_M_87 rfl d_M_compute_268 ?_
        refine lv_iconst (v := (1 : Int32)) hx hb d_M_compute_271 (by decide) ?_
        refine c_iS [] S (c_M_withBounds l _ _ _ _ _ _ _ _ _ A (mW_D hD) j1 (by first | assumption | exact and7_lt _) j2 (by first | assumption | exact and7_lt _) (k_a (cK j3)) true) mf_M_withBounds ml_M_137 hK hN hP hS ⟨rfl, rfl, Nat.le_of_ble_eq_true rfl, Nat.le_of_ble_eq_true rfl⟩ rfl hl.1 rfl (Nat.le_of_ble_eq_true rfl) d_M_compute_272 ⟨Nat.zero_le _, Nat.zero_le _⟩ (fun H locs hP hS => ?_)
        have hF : f_M_compute fB gT cK cd j1 j2 j3 iv = ((f_M_withBounds cK j1 j2 (k_a (cK j3)) true).1, fB, gT, (f_M_withBounds cK j1 j2 (k_a (cK j3)) true).2) := (if_pos h_3).trans ((if_pos h_32).trans ((if_neg h_55_2).trans ((if_neg h_55_3).trans ((if_neg h_55_7).trans ((if_neg h_55_8).trans ((if_neg h_55_9).trans ((if_neg h_55_10).trans ((if_pos h_55_11).trans (rfl)))))))))
        exact e_wi S hr hlocks hP hS (congrArg (fun z => z.1) hF.symm) (congrArg (fun z => mW q xa ad sS sC z.2.1 z.2.2.1 z.2.2.2) hF.symm) d_M_compute_275
      by_cases h_55_12 : cd = (12 : Int32)
      · -- 55: case 12
        refine t_in (12 : Int32) (off := 221) (tgt := 276) hx hb d_M_compute_55 h_55_12 (by decide) (by decide) (by decide) rfl ?_
        refine lv_aload_n hx hb d_M_compute_276 rfl (lv_at hl 2 rfl) ?_
        refine lv_aload_n hx hb d_M_compute_277 rfl (lv_at hl 3 rfl) ?_
        refine lv_aload hx hb d_M_compute_278 (lv_at hl 4 rfl) ?_
        refine k_getN (v := .int (k_a (cK j3))) S hK hP (by first | assumption | exact and7_lt _) 5 (by decide) hN fn_M_87 rfl d_M_compute_280 ?_
        refine c_iS [] S (c_M_withPermissions l _ _ _ _ _ _ _ _ _ A (mW_D hD) j1 (by first | assumption | exact and7_lt _) j2 (by first | assumption | exact and7_lt _) (k_a (cK j3))) mf_M_withPermissions ml_M_141 hK hN hP hS ⟨rfl, rfl, Nat.le_of_ble_eq_true rfl, Nat.le_of_ble_eq_true rfl⟩ rfl hl.1 rfl (Nat.le_of_ble_eq_true rfl) d_M_compute_283 ⟨Nat.zero_le _, Nat.zero_le _⟩ (fun H locs hP hS => ?_)
        have hF : f_M_compute fB gT cK cd j1 j2 j3 iv = ((f_M_withPermissions cK j1 j2 (k_a (cK j3))).1, fB, gT, (f_M_withPermissions cK j1 j2 (k_a (cK j3))).2) := (if_pos h_3).trans ((if_pos h_32).trans ((if_neg h_55_2).trans ((if_neg h_55_3).trans ((if_neg h_55_7).trans ((if_neg h_55_8).trans ((if_neg h_55_9).trans ((if_neg h_55_10).trans ((if_neg h_55_11).trans ((if_pos h_55_12).trans (rfl))))))))))
        exact e_wi S hr hlocks hP hS (congrArg (fun z => z.1) hF.symm) (congrArg (fun z => mW q xa ad sS sC z.2.1 z.2.2.1 z.2.2.2) hF.symm) d_M_compute_286
      by_cases h_55_13 : cd = (13 : Int32)
      · -- 55: case 13
        refine t_in (13 : Int32) (off := 232) (tgt := 287) hx hb d_M_compute_55 h_55_13 (by decide) (by decide) (by decide) rfl ?_
        refine lv_aload_n hx hb d_M_compute_287 rfl (lv_at hl 2 rfl) ?_
        refine lv_aload_n hx hb d_M_compute_288 rfl (lv_at hl 3 rfl) ?_
        refine lv_aload hx hb d_M_compute_289 (lv_at hl 4 rfl) ?_
        refine c_iS [] S (c_M_seal l _ _ _ _ _ _ _ _ _ A (mW_D hD) j1 (by first | assumption | exact and7_lt _) j2 (by first | assumption | exact and7_lt _) j3 (by first | assumption | exact and7_lt _)) mf_M_seal ml_M_144 hK hN hP hS ⟨rfl, rfl, Nat.le_of_ble_eq_true rfl, Nat.le_of_ble_eq_true rfl⟩ rfl hl.1 rfl (Nat.le_of_ble_eq_true rfl) d_M_compute_291 ⟨Nat.zero_le _, Nat.zero_le _⟩ (fun H locs hP hS => ?_)
        have hF : f_M_compute fB gT cK cd j1 j2 j3 iv = ((f_M_seal cK j1 j2 j3).1, fB, gT, (f_M_seal cK j1 j2 j3).2) := (if_pos h_3).trans ((if_pos h_32).trans ((if_neg h_55_2).trans ((if_neg h_55_3).trans ((if_neg h_55_7).trans ((if_neg h_55_8).trans ((if_neg h_55_9).trans ((if_neg h_55_10).trans ((if_neg h_55_11).trans ((if_neg h_55_12).trans ((if_pos h_55_13).trans (rfl)))))))))))
        exact e_wi S hr hlocks hP hS (congrArg (fun z => z.1) hF.symm) (congrArg (fun z => mW q xa ad sS sC z.2.1 z.2.2.1 z.2.2.2) hF.symm) d_M_compute_294
      by_cases h_55_14 : cd = (14 : Int32)
      · -- 55: case 14
        refine t_in (14 : Int32) (off := 240) (tgt := 295) hx hb d_M_compute_55 h_55_14 (by decide) (by decide) (by decide) rfl ?_
        refine lv_aload_n hx hb d_M_compute_295 rfl (lv_at hl 2 rfl) ?_
        refine lv_aload_n hx hb d_M_compute_296 rfl (lv_at hl 3 rfl) ?_
        refine lv_aload hx hb d_M_compute_297 (lv_at hl 4 rfl) ?_
        refine c_iS [] S (c_M_unseal l _ _ _ _ _ _ _ _ _ A (mW_D hD) j1 (by first | assumption | exact and7_lt _) j2 (by first | assumption | exact and7_lt _) j3 (by first | assumption | exact and7_lt _)) mf_M_unseal ml_M_148 hK hN hP hS ⟨rfl, rfl, Nat.le_of_ble_eq_true rfl, Nat.le_of_ble_eq_true rfl⟩ rfl hl.1 rfl (Nat.le_of_ble_eq_true rfl) d_M_compute_299 ⟨Nat.zero_le _, Nat.zero_le _⟩ (fun H locs hP hS => ?_)
        have hF : f_M_compute fB gT cK cd j1 j2 j3 iv = ((f_M_unseal cK j1 j2 j3).1, fB, gT, (f_M_unseal cK j1 j2 j3).2) := (if_pos h_3).trans ((if_pos h_32).trans ((if_neg h_55_2).trans ((if_neg h_55_3).trans ((if_neg h_55_7).trans ((if_neg h_55_8).trans ((if_neg h_55_9).trans ((if_neg h_55_10).trans ((if_neg h_55_11).trans ((if_neg h_55_12).trans ((if_neg h_55_13).trans ((if_pos h_55_14).trans (rfl))))))))))))
        exact e_wi S hr hlocks hP hS (congrArg (fun z => z.1) hF.symm) (congrArg (fun z => mW q xa ad sS sC z.2.1 z.2.2.1 z.2.2.2) hF.symm) d_M_compute_302
      by_cases h_55_15 : cd = (15 : Int32)
      · -- 55: case 15
        refine t_in (15 : Int32) (off := 248) (tgt := 303) hx hb d_M_compute_55 h_55_15 (by decide) (by decide) (by decide) rfl ?_
        refine lv_aload_n hx hb d_M_compute_303 rfl (lv_at hl 2 rfl) ?_
        refine lv_aload_n hx hb d_M_compute_304 rfl (lv_at hl 3 rfl) ?_
        refine c_iS [] S (c_M_makeEntry l _ _ _ _ _ _ _ _ _ A (mW_D hD) j1 (by first | assumption | exact and7_lt _) j2 (by first | assumption | exact and7_lt _)) mf_M_makeEntry ml_M_151 hK hN hP hS ⟨rfl, rfl, Nat.le_of_ble_eq_true rfl, Nat.le_of_ble_eq_true rfl⟩ rfl hl.1 rfl (Nat.le_of_ble_eq_true rfl) d_M_compute_305 ⟨Nat.zero_le _, Nat.zero_le _⟩ (fun H locs hP hS => ?_)
        have hF : f_M_compute fB gT cK cd j1 j2 j3 iv = ((f_M_makeEntry cK j1 j2).1, fB, gT, (f_M_makeEntry cK j1 j2).2) := (if_pos h_3).trans ((if_pos h_32).trans ((if_neg h_55_2).trans ((if_neg h_55_3).trans ((if_neg h_55_7).trans ((if_neg h_55_8).trans ((if_neg h_55_9).trans ((if_neg h_55_10).trans ((if_neg h_55_11).trans ((if_neg h_55_12).trans ((if_neg h_55_13).trans ((if_neg h_55_14).trans ((if_pos h_55_15).trans (rfl)))))))))))))
        exact e_wi S hr hlocks hP hS (congrArg (fun z => z.1) hF.symm) (congrArg (fun z => mW q xa ad sS sC z.2.1 z.2.2.1 z.2.2.2) hF.symm) d_M_compute_308
      by_cases h_55_29 : cd = (29 : Int32)
      · -- 55: case 29
        refine t_in (29 : Int32) (off := 254) (tgt := 309) hx hb d_M_compute_55 h_55_29 (by decide) (by decide) (by decide) rfl ?_
        refine lv_aload_n hx hb d_M_compute_309 rfl (lv_at hl 2 rfl) ?_
        refine lv_aload_n hx hb d_M_compute_310 rfl (lv_at hl 3 rfl) ?_
        refine c_iS [] S (c_M_withoutTag l _ _ _ _ _ _ _ _ _ A (mW_D hD) j1 (by first | assumption | exact and7_lt _) j2 (by first | assumption | exact and7_lt _)) mf_M_withoutTag ml_M_154 hK hN hP hS ⟨rfl, rfl, Nat.le_of_ble_eq_true rfl, Nat.le_of_ble_eq_true rfl⟩ rfl hl.1 rfl (Nat.le_of_ble_eq_true rfl) d_M_compute_311 ⟨Nat.zero_le _, Nat.zero_le _⟩ (fun H locs hP hS => ?_)
        have hF : f_M_compute fB gT cK cd j1 j2 j3 iv = ((f_M_withoutTag cK j1 j2).1, fB, gT, (f_M_withoutTag cK j1 j2).2) := (if_pos h_3).trans ((if_pos h_32).trans ((if_neg h_55_2).trans ((if_neg h_55_3).trans ((if_neg h_55_7).trans ((if_neg h_55_8).trans ((if_neg h_55_9).trans ((if_neg h_55_10).trans ((if_neg h_55_11).trans ((if_neg h_55_12).trans ((if_neg h_55_13).trans ((if_neg h_55_14).trans ((if_neg h_55_15).trans ((if_pos h_55_29).trans (rfl))))))))))))))
        exact e_wi S hr hlocks hP hS (congrArg (fun z => z.1) hF.symm) (congrArg (fun z => mW q xa ad sS sC z.2.1 z.2.2.1 z.2.2.2) hF.symm) d_M_compute_314
      by_cases h_55_30 : cd = (30 : Int32)
      · -- 55: case 30
        refine t_in (30 : Int32) (off := 260) (tgt := 315) hx hb d_M_compute_55 h_55_30 (by decide) (by decide) (by decide) rfl ?_
        refine lv_aload_n hx hb d_M_compute_315 rfl (lv_at hl 2 rfl) ?_
        refine lv_aload_n hx hb d_M_compute_316 rfl (lv_at hl 3 rfl) ?_
        refine lv_aload hx hb d_M_compute_317 (lv_at hl 4 rfl) ?_
        refine c_pN [.ref (ad j1)] S (c_K_isWithin l _ _ _ _ _ _ _ _ _ j2 (by first | assumption | exact and7_lt _) j3 (by first | assumption | exact and7_lt _)) mf_K_isWithin mn_M_157 hK hN hP (5 + j2) 0 (mW_get (by first | assumption | exact and7_lt _)) rfl ⟨rfl, rfl, Nat.le_of_ble_eq_true rfl, Nat.le_of_ble_eq_true rfl⟩ rfl hl.1 rfl (Nat.le_of_ble_eq_true rfl) d_M_compute_319 ⟨Nat.zero_le _, Nat.zero_le _⟩ ?_
        refine jn 330 ls [.ref (ad j1)] (b2i (if (f_K_isWithin cK j2 j3) = true then true else false)) ?_ (fun k_330 => ?_)
        · -- from 330 on
          refine c_iS [] S (c_M_number l _ _ _ _ _ _ _ _ _ A (mW_D hD) j1 (by first | assumption | exact and7_lt _) (b2i (if (f_K_isWithin cK j2 j3) = true then true else false))) mf_M_number ml_M_126 hK hN hP hS ⟨rfl, rfl, Nat.le_of_ble_eq_true rfl, Nat.le_of_ble_eq_true rfl⟩ rfl hl.1 rfl (Nat.le_of_ble_eq_true rfl) d_M_compute_330 ⟨Nat.zero_le _, Nat.zero_le _⟩ (fun H locs hP hS => ?_)
          have hF : f_M_compute fB gT cK cd j1 j2 j3 iv = ((f_M_number cK j1 (b2i (if (f_K_isWithin cK j2 j3) = true then true else false))).1, fB, gT, (f_M_number cK j1 (b2i (if (f_K_isWithin cK j2 j3) = true then true else false))).2) := (if_pos h_3).trans ((if_pos h_32).trans ((if_neg h_55_2).trans ((if_neg h_55_3).trans ((if_neg h_55_7).trans ((if_neg h_55_8).trans ((if_neg h_55_9).trans ((if_neg h_55_10).trans ((if_neg h_55_11).trans ((if_neg h_55_12).trans ((if_neg h_55_13).trans ((if_neg h_55_14).trans ((if_neg h_55_15).trans ((if_neg h_55_29).trans ((if_pos h_55_30).trans (rfl)))))))))))))))
          exact e_wi S hr hlocks hP hS (congrArg (fun z => z.1) hF.symm) (congrArg (fun z => mW q xa ad sS sC z.2.1 z.2.2.1 z.2.2.2) hF.symm) d_M_compute_333
        · -- to 330
          refine zb_eq (tgt := 329) hx hb d_M_compute_322 rfl (fun h_322 => ?_) (fun h_322 => ?_)
          · -- 322: taken
            refine lv_iconst (v := (0 : Int32)) hx hb d_M_compute_329 (by decide) ?_
            exact k_330 _ (congrArg b2i ((if_neg (bn_f h_322)).trans (rfl) : (if (f_K_isWithin cK j2 j3) = true then true else false) = false).symm)
          · -- 322: not taken
            refine lv_iconst (v := (1 : Int32)) hx hb d_M_compute_325 (by decide) ?_
            refine lv_goto (tgt := 330) hx hb d_M_compute_326 rfl ?_
            exact k_330 _ (congrArg b2i ((if_pos h_322).trans (rfl) : (if (f_K_isWithin cK j2 j3) = true then true else false) = true).symm)
      by_cases h_55_31 : cd = (31 : Int32)
      · -- 55: case 31
        refine t_in (31 : Int32) (off := 279) (tgt := 334) hx hb d_M_compute_55 h_55_31 (by decide) (by decide) (by decide) rfl ?_
        refine lv_aload_n hx hb d_M_compute_334 rfl (lv_at hl 2 rfl) ?_
        refine lv_aload_n hx hb d_M_compute_335 rfl (lv_at hl 0 rfl) ?_
        refine m_get S hK hP 1 (by decide) fl_M_16 rfl d_M_compute_336 ?_
        refine lv_aload_n hx hb d_M_compute_339 rfl (lv_at hl 0 rfl) ?_
        refine m_get S hK hP 1 (by decide) fl_M_16 rfl d_M_compute_340 ?_
        refine k_getN (v := .int (k_a (cK 8))) S hK hP (by decide) 5 (by decide) hN fn_M_87 rfl d_M_compute_343 ?_
        refine lv_iconst (v := (4 : Int32)) hx hb d_M_compute_346 (by decide) ?_
        refine lv_iload hx hb d_M_compute_347 (lv_at hl 5 rfl) ?_
        refine lv_imul hx hb d_M_compute_349 ?_
        refine lv_iadd hx hb d_M_compute_350 ?_
        refine c_iS [] S (c_M_withAddress l _ _ _ _ _ _ _ _ _ A (mW_D hD) j1 (by first | assumption | exact and7_lt _) 8 (by decide) ((k_a (cK 8)) + ((4 : Int32) * iv))) mf_M_withAddress ml_M_133 hK hN hP hS ⟨rfl, rfl, Nat.le_of_ble_eq_true rfl, Nat.le_of_ble_eq_true rfl⟩ rfl hl.1 rfl (Nat.le_of_ble_eq_true rfl) d_M_compute_351 ⟨Nat.zero_le _, Nat.zero_le _⟩ (fun H locs hP hS => ?_)
        have hF : f_M_compute fB gT cK cd j1 j2 j3 iv = ((f_M_withAddress cK j1 8 ((k_a (cK 8)) + ((4 : Int32) * iv))).1, fB, gT, (f_M_withAddress cK j1 8 ((k_a (cK 8)) + ((4 : Int32) * iv))).2) := (if_pos h_3).trans ((if_pos h_32).trans ((if_neg h_55_2).trans ((if_neg h_55_3).trans ((if_neg h_55_7).trans ((if_neg h_55_8).trans ((if_neg h_55_9).trans ((if_neg h_55_10).trans ((if_neg h_55_11).trans ((if_neg h_55_12).trans ((if_neg h_55_13).trans ((if_neg h_55_14).trans ((if_neg h_55_15).trans ((if_neg h_55_29).trans ((if_neg h_55_30).trans ((if_pos h_55_31).trans (rfl))))))))))))))))
        exact e_wi S hr hlocks hP hS (congrArg (fun z => z.1) hF.symm) (congrArg (fun z => mW q xa ad sS sC z.2.1 z.2.2.1 z.2.2.2) hF.symm) d_M_compute_354
      by_cases h_55_32 : cd = (32 : Int32)
      · -- 55: case 32
        refine t_in (32 : Int32) (off := 300) (tgt := 355) hx hb d_M_compute_55 h_55_32 (by decide) (by decide) (by decide) rfl ?_
        refine lv_aload_n hx hb d_M_compute_355 rfl (lv_at hl 0 rfl) ?_
        refine lv_aload_n hx hb d_M_compute_356 rfl (lv_at hl 2 rfl) ?_
        refine c_iV [] S (c_M_setHandler l _ _ _ _ _ _ _ _ _ A (mW_D hD) j1 (by first | assumption | exact and7_lt _)) mf_M_setHandler ml_M_161 hK hN hP hS 0 2 rfl rfl ⟨rfl, rfl, Nat.le_of_ble_eq_true rfl, Nat.le_of_ble_eq_true rfl⟩ rfl hl.1 rfl (Nat.le_of_ble_eq_true rfl) d_M_compute_357 ⟨Nat.zero_le _, Nat.zero_le _⟩ (fun H locs hP hS => ?_)
        have hF : f_M_compute fB gT cK cd j1 j2 j3 iv = ((f_M_setHandler cK j1).1, fB, gT, (f_M_setHandler cK j1).2) := (if_pos h_3).trans ((if_pos h_32).trans ((if_neg h_55_2).trans ((if_neg h_55_3).trans ((if_neg h_55_7).trans ((if_neg h_55_8).trans ((if_neg h_55_9).trans ((if_neg h_55_10).trans ((if_neg h_55_11).trans ((if_neg h_55_12).trans ((if_neg h_55_13).trans ((if_neg h_55_14).trans ((if_neg h_55_15).trans ((if_neg h_55_29).trans ((if_neg h_55_30).trans ((if_neg h_55_31).trans ((if_pos h_55_32).trans (rfl)))))))))))))))))
        exact e_wi S hr hlocks hP hS (congrArg (fun z => z.1) hF.symm) (congrArg (fun z => mW q xa ad sS sC z.2.1 z.2.2.1 z.2.2.2) hF.symm) d_M_compute_360
      refine t_no [2, 3, 7, 8, 9, 10, 11, 12, 13, 14, 15, 29, 30, 31, 32] (tgt := 361) hx hb d_M_compute_55 (List.forall_mem_cons.mpr ⟨lv_neT h_55_2 (by decide), List.forall_mem_cons.mpr ⟨lv_neT h_55_3 (by decide), List.forall_mem_cons.mpr ⟨lv_neT h_55_7 (by decide), List.forall_mem_cons.mpr ⟨lv_neT h_55_8 (by decide), List.forall_mem_cons.mpr ⟨lv_neT h_55_9 (by decide), List.forall_mem_cons.mpr ⟨lv_neT h_55_10 (by decide), List.forall_mem_cons.mpr ⟨lv_neT h_55_11 (by decide), List.forall_mem_cons.mpr ⟨lv_neT h_55_12 (by decide), List.forall_mem_cons.mpr ⟨lv_neT h_55_13 (by decide), List.forall_mem_cons.mpr ⟨lv_neT h_55_14 (by decide), List.forall_mem_cons.mpr ⟨lv_neT h_55_15 (by decide), List.forall_mem_cons.mpr ⟨lv_neT h_55_29 (by decide), List.forall_mem_cons.mpr ⟨lv_neT h_55_30 (by decide), List.forall_mem_cons.mpr ⟨lv_neT h_55_31 (by decide), List.forall_mem_cons.mpr ⟨lv_neT h_55_32 (by decide), fun _ h => absurd h List.not_mem_nil⟩⟩⟩⟩⟩⟩⟩⟩⟩⟩⟩⟩⟩⟩⟩) (by decide) rfl ?_
      refine lv_bipush (v := (8 : Int32)) hx hb d_M_compute_361 (by decide) ?_
      have hF : f_M_compute fB gT cK cd j1 j2 j3 iv = ((8 : Int32), fB, gT, cK) := (if_pos h_3).trans ((if_pos h_32).trans ((if_neg h_55_2).trans ((if_neg h_55_3).trans ((if_neg h_55_7).trans ((if_neg h_55_8).trans ((if_neg h_55_9).trans ((if_neg h_55_10).trans ((if_neg h_55_11).trans ((if_neg h_55_12).trans ((if_neg h_55_13).trans ((if_neg h_55_14).trans ((if_neg h_55_15).trans ((if_neg h_55_29).trans ((if_neg h_55_30).trans ((if_neg h_55_31).trans ((if_neg h_55_32).trans (rfl)))))))))))))))))
      exact e_wi S hr hlocks hP hS (congrArg (fun z => z.1) hF.symm) (congrArg (fun z => mW q xa ad sS sC z.2.1 z.2.2.1 z.2.2.2) hF.symm) d_M_compute_363
    · -- 32: not taken
      refine lv_iload_n hx hb d_M_compute_35 rfl (lv_at hl 1 rfl) ?_
      refine lv_bipush (v := (28 : Int32)) hx hb d_M_compute_36 (by decide) ?_
      refine lv_icmp_gt (tgt := 54) hx hb d_M_compute_38 rfl (fun h_38 => ?_) (fun h_38 => ?_)
      · -- 38: taken
        refine lv_iload_n hx hb d_M_compute_54 rfl (lv_at hl 1 rfl) ?_
        by_cases h_55_2 : cd = (2 : Int32)
        · -- 55: case 2
          refine t_in (2 : Int32) (off := 137) (tgt := 192) hx hb d_M_compute_55 h_55_2 (by decide) (by decide) (by decide) rfl ?_
          refine lv_aload_n hx hb d_M_compute_192 rfl (lv_at hl 2 rfl) ?_
          refine lv_aload_n hx hb d_M_compute_193 rfl (lv_at hl 3 rfl) ?_
          refine k_getN (v := .int (k_a (cK j2))) S hK hP (by first | assumption | exact and7_lt _) 5 (by decide) hN fn_M_87 rfl d_M_compute_194 ?_
          refine lv_aload hx hb d_M_compute_197 (lv_at hl 4 rfl) ?_
          refine k_getN (v := .int (k_a (cK j3))) S hK hP (by first | assumption | exact and7_lt _) 5 (by decide) hN fn_M_87 rfl d_M_compute_199 ?_
          refine lv_iadd hx hb d_M_compute_202 ?_
          refine c_iS [] S (c_M_number l _ _ _ _ _ _ _ _ _ A (mW_D hD) j1 (by first | assumption | exact and7_lt _) ((k_a (cK j2)) + (k_a (cK j3)))) mf_M_number ml_M_126 hK hN hP hS ⟨rfl, rfl, Nat.le_of_ble_eq_true rfl, Nat.le_of_ble_eq_true rfl⟩ rfl hl.1 rfl (Nat.le_of_ble_eq_true rfl) d_M_compute_203 ⟨Nat.zero_le _, Nat.zero_le _⟩ (fun H locs hP hS => ?_)
          have hF : f_M_compute fB gT cK cd j1 j2 j3 iv = ((f_M_number cK j1 ((k_a (cK j2)) + (k_a (cK j3)))).1, fB, gT, (f_M_number cK j1 ((k_a (cK j2)) + (k_a (cK j3)))).2) := (if_pos h_3).trans ((if_neg h_32).trans ((if_pos h_38).trans ((if_pos h_55_2).trans (rfl))))
          exact e_wi S hr hlocks hP hS (congrArg (fun z => z.1) hF.symm) (congrArg (fun z => mW q xa ad sS sC z.2.1 z.2.2.1 z.2.2.2) hF.symm) d_M_compute_206
        by_cases h_55_3 : cd = (3 : Int32)
        · -- 55: case 3
          refine t_in (3 : Int32) (off := 152) (tgt := 207) hx hb d_M_compute_55 h_55_3 (by decide) (by decide) (by decide) rfl ?_
          refine lv_aload_n hx hb d_M_compute_207 rfl (lv_at hl 2 rfl) ?_
          refine lv_aload_n hx hb d_M_compute_208 rfl (lv_at hl 3 rfl) ?_
          refine k_getN (v := .int (k_a (cK j2))) S hK hP (by first | assumption | exact and7_lt _) 5 (by decide) hN fn_M_87 rfl d_M_compute_209 ?_
          refine lv_aload hx hb d_M_compute_212 (lv_at hl 4 rfl) ?_
          refine k_getN (v := .int (k_a (cK j3))) S hK hP (by first | assumption | exact and7_lt _) 5 (by decide) hN fn_M_87 rfl d_M_compute_214 ?_
          refine lv_isub hx hb d_M_compute_217 ?_
          refine c_iS [] S (c_M_number l _ _ _ _ _ _ _ _ _ A (mW_D hD) j1 (by first | assumption | exact and7_lt _) ((k_a (cK j2)) - (k_a (cK j3)))) mf_M_number ml_M_126 hK hN hP hS ⟨rfl, rfl, Nat.le_of_ble_eq_true rfl, Nat.le_of_ble_eq_true rfl⟩ rfl hl.1 rfl (Nat.le_of_ble_eq_true rfl) d_M_compute_218 ⟨Nat.zero_le _, Nat.zero_le _⟩ (fun H locs hP hS => ?_)
          have hF : f_M_compute fB gT cK cd j1 j2 j3 iv = ((f_M_number cK j1 ((k_a (cK j2)) - (k_a (cK j3)))).1, fB, gT, (f_M_number cK j1 ((k_a (cK j2)) - (k_a (cK j3)))).2) := (if_pos h_3).trans ((if_neg h_32).trans ((if_pos h_38).trans ((if_neg h_55_2).trans ((if_pos h_55_3).trans (rfl)))))
          exact e_wi S hr hlocks hP hS (congrArg (fun z => z.1) hF.symm) (congrArg (fun z => mW q xa ad sS sC z.2.1 z.2.2.1 z.2.2.2) hF.symm) d_M_compute_221
        by_cases h_55_7 : cd = (7 : Int32)
        · -- 55: case 7
          refine t_in (7 : Int32) (off := 167) (tgt := 222) hx hb d_M_compute_55 h_55_7 (by decide) (by decide) (by decide) rfl ?_
          refine lv_aload_n hx hb d_M_compute_222 rfl (lv_at hl 2 rfl) ?_
          refine lv_aload_n hx hb d_M_compute_223 rfl (lv_at hl 3 rfl) ?_
          refine c_iS [] S (c_M_copy l _ _ _ _ _ _ _ _ _ A (mW_D hD) j1 (by first | assumption | exact and7_lt _) j2 (by first | assumption | exact and7_lt _)) mf_M_copy ml_M_130 hK hN hP hS ⟨rfl, rfl, Nat.le_of_ble_eq_true rfl, Nat.le_of_ble_eq_true rfl⟩ rfl hl.1 rfl (Nat.le_of_ble_eq_true rfl) d_M_compute_224 ⟨Nat.zero_le _, Nat.zero_le _⟩ (fun H locs hP hS => ?_)
          have hF : f_M_compute fB gT cK cd j1 j2 j3 iv = ((f_M_copy cK j1 j2).1, fB, gT, (f_M_copy cK j1 j2).2) := (if_pos h_3).trans ((if_neg h_32).trans ((if_pos h_38).trans ((if_neg h_55_2).trans ((if_neg h_55_3).trans ((if_pos h_55_7).trans (rfl))))))
          exact e_wi S hr hlocks hP hS (congrArg (fun z => z.1) hF.symm) (congrArg (fun z => mW q xa ad sS sC z.2.1 z.2.2.1 z.2.2.2) hF.symm) d_M_compute_227
        by_cases h_55_8 : cd = (8 : Int32)
        · -- 55: case 8
          refine t_in (8 : Int32) (off := 173) (tgt := 228) hx hb d_M_compute_55 h_55_8 (by decide) (by decide) (by decide) rfl ?_
          refine lv_aload_n hx hb d_M_compute_228 rfl (lv_at hl 2 rfl) ?_
          refine lv_aload_n hx hb d_M_compute_229 rfl (lv_at hl 3 rfl) ?_
          refine lv_aload hx hb d_M_compute_230 (lv_at hl 4 rfl) ?_
          refine k_getN (v := .int (k_a (cK j3))) S hK hP (by first | assumption | exact and7_lt _) 5 (by decide) hN fn_M_87 rfl d_M_compute_232 ?_
          refine c_iS [] S (c_M_withAddress l _ _ _ _ _ _ _ _ _ A (mW_D hD) j1 (by first | assumption | exact and7_lt _) j2 (by first | assumption | exact and7_lt _) (k_a (cK j3))) mf_M_withAddress ml_M_133 hK hN hP hS ⟨rfl, rfl, Nat.le_of_ble_eq_true rfl, Nat.le_of_ble_eq_true rfl⟩ rfl hl.1 rfl (Nat.le_of_ble_eq_true rfl) d_M_compute_235 ⟨Nat.zero_le _, Nat.zero_le _⟩ (fun H locs hP hS => ?_)
          have hF : f_M_compute fB gT cK cd j1 j2 j3 iv = ((f_M_withAddress cK j1 j2 (k_a (cK j3))).1, fB, gT, (f_M_withAddress cK j1 j2 (k_a (cK j3))).2) := (if_pos h_3).trans ((if_neg h_32).trans ((if_pos h_38).trans ((if_neg h_55_2).trans ((if_neg h_55_3).trans ((if_neg h_55_7).trans ((if_pos h_55_8).trans (rfl)))))))
          exact e_wi S hr hlocks hP hS (congrArg (fun z => z.1) hF.symm) (congrArg (fun z => mW q xa ad sS sC z.2.1 z.2.2.1 z.2.2.2) hF.symm) d_M_compute_238
        by_cases h_55_9 : cd = (9 : Int32)
        · -- 55: case 9
          refine t_in (9 : Int32) (off := 184) (tgt := 239) hx hb d_M_compute_55 h_55_9 (by decide) (by decide) (by decide) rfl ?_
          refine lv_aload_n hx hb d_M_compute_239 rfl (lv_at hl 2 rfl) ?_
          refine lv_aload_n hx hb d_M_compute_240 rfl (lv_at hl 3 rfl) ?_
          refine lv_aload_n hx hb d_M_compute_241 rfl (lv_at hl 3 rfl) ?_
          refine k_getN (v := .int (k_a (cK j2))) S hK hP (by first | assumption | exact and7_lt _) 5 (by decide) hN fn_M_87 rfl d_M_compute_242 ?_
          refine lv_iload hx hb d_M_compute_245 (lv_at hl 5 rfl) ?_
          refine lv_iadd hx hb d_M_compute_247 ?_
          refine c_iS [] S (c_M_withAddress l _ _ _ _ _ _ _ _ _ A (mW_D hD) j1 (by first | assumption | exact and7_lt _) j2 (by first | assumption | exact and7_lt _) ((k_a (cK j2)) + iv)) mf_M_withAddress ml_M_133 hK hN hP hS ⟨rfl, rfl, Nat.le_of_ble_eq_true rfl, Nat.le_of_ble_eq_true rfl⟩ rfl hl.1 rfl (Nat.le_of_ble_eq_true rfl) d_M_compute_248 ⟨Nat.zero_le _, Nat.zero_le _⟩ (fun H locs hP hS => ?_)
          have hF : f_M_compute fB gT cK cd j1 j2 j3 iv = ((f_M_withAddress cK j1 j2 ((k_a (cK j2)) + iv)).1, fB, gT, (f_M_withAddress cK j1 j2 ((k_a (cK j2)) + iv)).2) := (if_pos h_3).trans ((if_neg h_32).trans ((if_pos h_38).trans ((if_neg h_55_2).trans ((if_neg h_55_3).trans ((if_neg h_55_7).trans ((if_neg h_55_8).trans ((if_pos h_55_9).trans (rfl))))))))
          exact e_wi S hr hlocks hP hS (congrArg (fun z => z.1) hF.symm) (congrArg (fun z => mW q xa ad sS sC z.2.1 z.2.2.1 z.2.2.2) hF.symm) d_M_compute_251
        by_cases h_55_10 : cd = (10 : Int32)
        · -- 55: case 10
          refine t_in (10 : Int32) (off := 197) (tgt := 252) hx hb d_M_compute_55 h_55_10 (by decide) (by decide) (by decide) rfl ?_
          refine lv_aload_n hx hb d_M_compute_252 rfl (lv_at hl 2 rfl) ?_
          refine lv_aload_n hx hb d_M_compute_253 rfl (lv_at hl 3 rfl) ?_
          refine lv_aload hx hb d_M_compute_254 (lv_at hl 4 rfl) ?_
          refine k_getN (v := .int (k_a (cK j3))) S hK hP (by first | assumption | exact and7_lt _) 5 (by decide) hN fn_M_87 rfl d_M_compute_256 ?_
          refine lv_iconst (v := (0 : Int32)) hx hb d_M_compute_259 (by decide) ?_
          refine c_iS [] S (c_M_withBounds l _ _ _ _ _ _ _ _ _ A (mW_D hD) j1 (by first | assumption | exact and7_lt _) j2 (by first | assumption | exact and7_lt _) (k_a (cK j3)) false) mf_M_withBounds ml_M_137 hK hN hP hS ⟨rfl, rfl, Nat.le_of_ble_eq_true rfl, Nat.le_of_ble_eq_true rfl⟩ rfl hl.1 rfl (Nat.le_of_ble_eq_true rfl) d_M_compute_260 ⟨Nat.zero_le _, Nat.zero_le _⟩ (fun H locs hP hS => ?_)
          have hF : f_M_compute fB gT cK cd j1 j2 j3 iv = ((f_M_withBounds cK j1 j2 (k_a (cK j3)) false).1, fB, gT, (f_M_withBounds cK j1 j2 (k_a (cK j3)) false).2) := (if_pos h_3).trans ((if_neg h_32).trans ((if_pos h_38).trans ((if_neg h_55_2).trans ((if_neg h_55_3).trans ((if_neg h_55_7).trans ((if_neg h_55_8).trans ((if_neg h_55_9).trans ((if_pos h_55_10).trans (rfl)))))))))
          exact e_wi S hr hlocks hP hS (congrArg (fun z => z.1) hF.symm) (congrArg (fun z => mW q xa ad sS sC z.2.1 z.2.2.1 z.2.2.2) hF.symm) d_M_compute_263
        by_cases h_55_11 : cd = (11 : Int32)
        · -- 55: case 11
          refine t_in (11 : Int32) (off := 209) (tgt := 264) hx hb d_M_compute_55 h_55_11 (by decide) (by decide) (by decide) rfl ?_
          refine lv_aload_n hx hb d_M_compute_264 rfl (lv_at hl 2 rfl) ?_
          refine lv_aload_n hx hb d_M_compute_265 rfl (lv_at hl 3 rfl) ?_
          refine lv_aload hx hb d_M_compute_266 (lv_at hl 4 rfl) ?_
          refine k_getN (v := .int (k_a (cK j3))) S hK hP (by first | assumption | exact and7_lt _) 5 (by decide) hN fn_M_87 rfl d_M_compute_268 ?_
          refine lv_iconst (v := (1 : Int32)) hx hb d_M_compute_271 (by decide) ?_
          refine c_iS [] S (c_M_withBounds l _ _ _ _ _ _ _ _ _ A (mW_D hD) j1 (by first | assumption | exact and7_lt _) j2 (by first | assumption | exact and7_lt _) (k_a (cK j3)) true) mf_M_withBounds ml_M_137 hK hN hP hS ⟨rfl, rfl, Nat.le_of_ble_eq_true rfl, Nat.le_of_ble_eq_true rfl⟩ rfl hl.1 rfl (Nat.le_of_ble_eq_true rfl) d_M_compute_272 ⟨Nat.zero_le _, Nat.zero_le _⟩ (fun H locs hP hS => ?_)
          have hF : f_M_compute fB gT cK cd j1 j2 j3 iv = ((f_M_withBounds cK j1 j2 (k_a (cK j3)) true).1, fB, gT, (f_M_withBounds cK j1 j2 (k_a (cK j3)) true).2) := (if_pos h_3).trans ((if_neg h_32).trans ((if_pos h_38).trans ((if_neg h_55_2).trans ((if_neg h_55_3).trans ((if_neg h_55_7).trans ((if_neg h_55_8).trans ((if_neg h_55_9).trans ((if_neg h_55_10).trans ((if_pos h_55_11).trans (rfl))))))))))
          exact e_wi S hr hlocks hP hS (congrArg (fun z => z.1) hF.symm) (congrArg (fun z => mW q xa ad sS sC z.2.1 z.2.2.1 z.2.2.2) hF.symm) d_M_compute_275
        by_cases h_55_12 : cd = (12 : Int32)
        · -- 55: case 12
          refine t_in (12 : Int32) (off := 221) (tgt := 276) hx hb d_M_compute_55 h_55_12 (by decide) (by decide) (by decide) rfl ?_
          refine lv_aload_n hx hb d_M_compute_276 rfl (lv_at hl 2 rfl) ?_
          refine lv_aload_n hx hb d_M_compute_277 rfl (lv_at hl 3 rfl) ?_
          refine lv_aload hx hb d_M_compute_278 (lv_at hl 4 rfl) ?_
          refine k_getN (v := .int (k_a (cK j3))) S hK hP (by first | assumption | exact and7_lt _) 5 (by decide) hN fn_M_87 rfl d_M_compute_280 ?_
          refine c_iS [] S (c_M_withPermissions l _ _ _ _ _ _ _ _ _ A (mW_D hD) j1 (by first | assumption | exact and7_lt _) j2 (by first | assumption | exact and7_lt _) (k_a (cK j3))) mf_M_withPermissions ml_M_141 hK hN hP hS ⟨rfl, rfl, Nat.le_of_ble_eq_true rfl, Nat.le_of_ble_eq_true rfl⟩ rfl hl.1 rfl (Nat.le_of_ble_eq_true rfl) d_M_compute_283 ⟨Nat.zero_le _, Nat.zero_le _⟩ (fun H locs hP hS => ?_)
          have hF : f_M_compute fB gT cK cd j1 j2 j3 iv = ((f_M_withPermissions cK j1 j2 (k_a (cK j3))).1, fB, gT, (f_M_withPermissions cK j1 j2 (k_a (cK j3))).2) := (if_pos h_3).trans ((if_neg h_32).trans ((if_pos h_38).trans ((if_neg h_55_2).trans ((if_neg h_55_3).trans ((if_neg h_55_7).trans ((if_neg h_55_8).trans ((if_neg h_55_9).trans ((if_neg h_55_10).trans ((if_neg h_55_11).trans ((if_pos h_55_12).trans (rfl)))))))))))
          exact e_wi S hr hlocks hP hS (congrArg (fun z => z.1) hF.symm) (congrArg (fun z => mW q xa ad sS sC z.2.1 z.2.2.1 z.2.2.2) hF.symm) d_M_compute_286
        by_cases h_55_13 : cd = (13 : Int32)
        · -- 55: case 13
          refine t_in (13 : Int32) (off := 232) (tgt := 287) hx hb d_M_compute_55 h_55_13 (by decide) (by decide) (by decide) rfl ?_
          refine lv_aload_n hx hb d_M_compute_287 rfl (lv_at hl 2 rfl) ?_
          refine lv_aload_n hx hb d_M_compute_288 rfl (lv_at hl 3 rfl) ?_
          refine lv_aload hx hb d_M_compute_289 (lv_at hl 4 rfl) ?_
          refine c_iS [] S (c_M_seal l _ _ _ _ _ _ _ _ _ A (mW_D hD) j1 (by first | assumption | exact and7_lt _) j2 (by first | assumption | exact and7_lt _) j3 (by first | assumption | exact and7_lt _)) mf_M_seal ml_M_144 hK hN hP hS ⟨rfl, rfl, Nat.le_of_ble_eq_true rfl, Nat.le_of_ble_eq_true rfl⟩ rfl hl.1 rfl (Nat.le_of_ble_eq_true rfl) d_M_compute_291 ⟨Nat.zero_le _, Nat.zero_le _⟩ (fun H locs hP hS => ?_)
          have hF : f_M_compute fB gT cK cd j1 j2 j3 iv = ((f_M_seal cK j1 j2 j3).1, fB, gT, (f_M_seal cK j1 j2 j3).2) := (if_pos h_3).trans ((if_neg h_32).trans ((if_pos h_38).trans ((if_neg h_55_2).trans ((if_neg h_55_3).trans ((if_neg h_55_7).trans ((if_neg h_55_8).trans ((if_neg h_55_9).trans ((if_neg h_55_10).trans ((if_neg h_55_11).trans ((if_neg h_55_12).trans ((if_pos h_55_13).trans (rfl))))))))))))
          exact e_wi S hr hlocks hP hS (congrArg (fun z => z.1) hF.symm) (congrArg (fun z => mW q xa ad sS sC z.2.1 z.2.2.1 z.2.2.2) hF.symm) d_M_compute_294
        by_cases h_55_14 : cd = (14 : Int32)
        · -- 55: case 14
          refine t_in (14 : Int32) (off := 240) (tgt := 295) hx hb d_M_compute_55 h_55_14 (by decide) (by decide) (by decide) rfl ?_
          refine lv_aload_n hx hb d_M_compute_295 rfl (lv_at hl 2 rfl) ?_
          refine lv_aload_n hx hb d_M_compute_296 rfl (lv_at hl 3 rfl) ?_
          refine lv_aload hx hb d_M_compute_297 (lv_at hl 4 rfl) ?_
          refine c_iS [] S (c_M_unseal l _ _ _ _ _ _ _ _ _ A (mW_D hD) j1 (by first | assumption | exact and7_lt _) j2 (by first | assumption | exact and7_lt _) j3 (by first | assumption | exact and7_lt _)) mf_M_unseal ml_M_148 hK hN hP hS ⟨rfl, rfl, Nat.le_of_ble_eq_true rfl, Nat.le_of_ble_eq_true rfl⟩ rfl hl.1 rfl (Nat.le_of_ble_eq_true rfl) d_M_compute_299 ⟨Nat.zero_le _, Nat.zero_le _⟩ (fun H locs hP hS => ?_)
          have hF : f_M_compute fB gT cK cd j1 j2 j3 iv = ((f_M_unseal cK j1 j2 j3).1, fB, gT, (f_M_unseal cK j1 j2 j3).2) := (if_pos h_3).trans ((if_neg h_32).trans ((if_pos h_38).trans ((if_neg h_55_2).trans ((if_neg h_55_3).trans ((if_neg h_55_7).trans ((if_neg h_55_8).trans ((if_neg h_55_9).trans ((if_neg h_55_10).trans ((if_neg h_55_11).trans ((if_neg h_55_12).trans ((if_neg h_55_13).trans ((if_pos h_55_14).trans (rfl)))))))))))))
          exact e_wi S hr hlocks hP hS (congrArg (fun z => z.1) hF.symm) (congrArg (fun z => mW q xa ad sS sC z.2.1 z.2.2.1 z.2.2.2) hF.symm) d_M_compute_302
        by_cases h_55_15 : cd = (15 : Int32)
        · -- 55: case 15
          refine t_in (15 : Int32) (off := 248) (tgt := 303) hx hb d_M_compute_55 h_55_15 (by decide) (by decide) (by decide) rfl ?_
          refine lv_aload_n hx hb d_M_compute_303 rfl (lv_at hl 2 rfl) ?_
          refine lv_aload_n hx hb d_M_compute_304 rfl (lv_at hl 3 rfl) ?_
          refine c_iS [] S (c_M_makeEntry l _ _ _ _ _ _ _ _ _ A (mW_D hD) j1 (by first | assumption | exact and7_lt _) j2 (by first | assumption | exact and7_lt _)) mf_M_makeEntry ml_M_151 hK hN hP hS ⟨rfl, rfl, Nat.le_of_ble_eq_true rfl, Nat.le_of_ble_eq_true rfl⟩ rfl hl.1 rfl (Nat.le_of_ble_eq_true rfl) d_M_compute_305 ⟨Nat.zero_le _, Nat.zero_le _⟩ (fun H locs hP hS => ?_)
          have hF : f_M_compute fB gT cK cd j1 j2 j3 iv = ((f_M_makeEntry cK j1 j2).1, fB, gT, (f_M_makeEntry cK j1 j2).2) := (if_pos h_3).trans ((if_neg h_32).trans ((if_pos h_38).trans ((if_neg h_55_2).trans ((if_neg h_55_3).trans ((if_neg h_55_7).trans ((if_neg h_55_8).trans ((if_neg h_55_9).trans ((if_neg h_55_10).trans ((if_neg h_55_11).trans ((if_neg h_55_12).trans ((if_neg h_55_13).trans ((if_neg h_55_14).trans ((if_pos h_55_15).trans (rfl))))))))))))))
          exact e_wi S hr hlocks hP hS (congrArg (fun z => z.1) hF.symm) (congrArg (fun z => mW q xa ad sS sC z.2.1 z.2.2.1 z.2.2.2) hF.symm) d_M_compute_308
        by_cases h_55_29 : cd = (29 : Int32)
        · -- 55: case 29
          refine t_in (29 : Int32) (off := 254) (tgt := 309) hx hb d_M_compute_55 h_55_29 (by decide) (by decide) (by decide) rfl ?_
          refine lv_aload_n hx hb d_M_compute_309 rfl (lv_at hl 2 rfl) ?_
          refine lv_aload_n hx hb d_M_compute_310 rfl (lv_at hl 3 rfl) ?_
          refine c_iS [] S (c_M_withoutTag l _ _ _ _ _ _ _ _ _ A (mW_D hD) j1 (by first | assumption | exact and7_lt _) j2 (by first | assumption | exact and7_lt _)) mf_M_withoutTag ml_M_154 hK hN hP hS ⟨rfl, rfl, Nat.le_of_ble_eq_true rfl, Nat.le_of_ble_eq_true rfl⟩ rfl hl.1 rfl (Nat.le_of_ble_eq_true rfl) d_M_compute_311 ⟨Nat.zero_le _, Nat.zero_le _⟩ (fun H locs hP hS => ?_)
          have hF : f_M_compute fB gT cK cd j1 j2 j3 iv = ((f_M_withoutTag cK j1 j2).1, fB, gT, (f_M_withoutTag cK j1 j2).2) := (if_pos h_3).trans ((if_neg h_32).trans ((if_pos h_38).trans ((if_neg h_55_2).trans ((if_neg h_55_3).trans ((if_neg h_55_7).trans ((if_neg h_55_8).trans ((if_neg h_55_9).trans ((if_neg h_55_10).trans ((if_neg h_55_11).trans ((if_neg h_55_12).trans ((if_neg h_55_13).trans ((if_neg h_55_14).trans ((if_neg h_55_15).trans ((if_pos h_55_29).trans (rfl)))))))))))))))
          exact e_wi S hr hlocks hP hS (congrArg (fun z => z.1) hF.symm) (congrArg (fun z => mW q xa ad sS sC z.2.1 z.2.2.1 z.2.2.2) hF.symm) d_M_compute_314
        by_cases h_55_30 : cd = (30 : Int32)
        · -- 55: case 30
          refine t_in (30 : Int32) (off := 260) (tgt := 315) hx hb d_M_compute_55 h_55_30 (by decide) (by decide) (by decide) rfl ?_
          refine lv_aload_n hx hb d_M_compute_315 rfl (lv_at hl 2 rfl) ?_
          refine lv_aload_n hx hb d_M_compute_316 rfl (lv_at hl 3 rfl) ?_
          refine lv_aload hx hb d_M_compute_317 (lv_at hl 4 rfl) ?_
          refine c_pN [.ref (ad j1)] S (c_K_isWithin l _ _ _ _ _ _ _ _ _ j2 (by first | assumption | exact and7_lt _) j3 (by first | assumption | exact and7_lt _)) mf_K_isWithin mn_M_157 hK hN hP (5 + j2) 0 (mW_get (by first | assumption | exact and7_lt _)) rfl ⟨rfl, rfl, Nat.le_of_ble_eq_true rfl, Nat.le_of_ble_eq_true rfl⟩ rfl hl.1 rfl (Nat.le_of_ble_eq_true rfl) d_M_compute_319 ⟨Nat.zero_le _, Nat.zero_le _⟩ ?_
          refine jn 330 ls [.ref (ad j1)] (b2i (if (f_K_isWithin cK j2 j3) = true then true else false)) ?_ (fun k_330 => ?_)
          · -- from 330 on
            refine c_iS [] S (c_M_number l _ _ _ _ _ _ _ _ _ A (mW_D hD) j1 (by first | assumption | exact and7_lt _) (b2i (if (f_K_isWithin cK j2 j3) = true then true else false))) mf_M_number ml_M_126 hK hN hP hS ⟨rfl, rfl, Nat.le_of_ble_eq_true rfl, Nat.le_of_ble_eq_true rfl⟩ rfl hl.1 rfl (Nat.le_of_ble_eq_true rfl) d_M_compute_330 ⟨Nat.zero_le _, Nat.zero_le _⟩ (fun H locs hP hS => ?_)
            have hF : f_M_compute fB gT cK cd j1 j2 j3 iv = ((f_M_number cK j1 (b2i (if (f_K_isWithin cK j2 j3) = true then true else false))).1, fB, gT, (f_M_number cK j1 (b2i (if (f_K_isWithin cK j2 j3) = true then true else false))).2) := (if_pos h_3).trans ((if_neg h_32).trans ((if_pos h_38).trans ((if_neg h_55_2).trans ((if_neg h_55_3).trans ((if_neg h_55_7).trans ((if_neg h_55_8).trans ((if_neg h_55_9).trans ((if_neg h_55_10).trans ((if_neg h_55_11).trans ((if_neg h_55_12).trans ((if_neg h_55_13).trans ((if_neg h_55_14).trans ((if_neg h_55_15).trans ((if_neg h_55_29).trans ((if_pos h_55_30).trans (rfl))))))))))))))))
            exact e_wi S hr hlocks hP hS (congrArg (fun z => z.1) hF.symm) (congrArg (fun z => mW q xa ad sS sC z.2.1 z.2.2.1 z.2.2.2) hF.symm) d_M_compute_333
          · -- to 330
            refine zb_eq (tgt := 329) hx hb d_M_compute_322 rfl (fun h_322 => ?_) (fun h_322 => ?_)
            · -- 322: taken
              refine lv_iconst (v := (0 : Int32)) hx hb d_M_compute_329 (by decide) ?_
              exact k_330 _ (congrArg b2i ((if_neg (bn_f h_322)).trans (rfl) : (if (f_K_isWithin cK j2 j3) = true then true else false) = false).symm)
            · -- 322: not taken
              refine lv_iconst (v := (1 : Int32)) hx hb d_M_compute_325 (by decide) ?_
              refine lv_goto (tgt := 330) hx hb d_M_compute_326 rfl ?_
              exact k_330 _ (congrArg b2i ((if_pos h_322).trans (rfl) : (if (f_K_isWithin cK j2 j3) = true then true else false) = true).symm)
        by_cases h_55_31 : cd = (31 : Int32)
        · -- 55: case 31
          refine t_in (31 : Int32) (off := 279) (tgt := 334) hx hb d_M_compute_55 h_55_31 (by decide) (by decide) (by decide) rfl ?_
          refine lv_aload_n hx hb d_M_compute_334 rfl (lv_at hl 2 rfl) ?_
          refine lv_aload_n hx hb d_M_compute_335 rfl (lv_at hl 0 rfl) ?_
          refine m_get S hK hP 1 (by decide) fl_M_16 rfl d_M_compute_336 ?_
          refine lv_aload_n hx hb d_M_compute_339 rfl (lv_at hl 0 rfl) ?_
          refine m_get S hK hP 1 (by decide) fl_M_16 rfl d_M_compute_340 ?_
          refine k_getN (v := .int (k_a (cK 8))) S hK hP (by decide) 5 (by decide) hN fn_M_87 rfl d_M_compute_343 ?_
          refine lv_iconst (v := (4 : Int32)) hx hb d_M_compute_346 (by decide) ?_
          refine lv_iload hx hb d_M_compute_347 (lv_at hl 5 rfl) ?_
          refine lv_imul hx hb d_M_compute_349 ?_
          refine lv_iadd hx hb d_M_compute_350 ?_
          refine c_iS [] S (c_M_withAddress l _ _ _ _ _ _ _ _ _ A (mW_D hD) j1 (by first | assumption | exact and7_lt _) 8 (by decide) ((k_a (cK 8)) + ((4 : Int32) * iv))) mf_M_withAddress ml_M_133 hK hN hP hS ⟨rfl, rfl, Nat.le_of_ble_eq_true rfl, Nat.le_of_ble_eq_true rfl⟩ rfl hl.1 rfl (Nat.le_of_ble_eq_true rfl) d_M_compute_351 ⟨Nat.zero_le _, Nat.zero_le _⟩ (fun H locs hP hS => ?_)
          have hF : f_M_compute fB gT cK cd j1 j2 j3 iv = ((f_M_withAddress cK j1 8 ((k_a (cK 8)) + ((4 : Int32) * iv))).1, fB, gT, (f_M_withAddress cK j1 8 ((k_a (cK 8)) + ((4 : Int32) * iv))).2) := (if_pos h_3).trans ((if_neg h_32).trans ((if_pos h_38).trans ((if_neg h_55_2).trans ((if_neg h_55_3).trans ((if_neg h_55_7).trans ((if_neg h_55_8).trans ((if_neg h_55_9).trans ((if_neg h_55_10).trans ((if_neg h_55_11).trans ((if_neg h_55_12).trans ((if_neg h_55_13).trans ((if_neg h_55_14).trans ((if_neg h_55_15).trans ((if_neg h_55_29).trans ((if_neg h_55_30).trans ((if_pos h_55_31).trans (rfl)))))))))))))))))
          exact e_wi S hr hlocks hP hS (congrArg (fun z => z.1) hF.symm) (congrArg (fun z => mW q xa ad sS sC z.2.1 z.2.2.1 z.2.2.2) hF.symm) d_M_compute_354
        by_cases h_55_32 : cd = (32 : Int32)
        · -- 55: case 32
          refine t_in (32 : Int32) (off := 300) (tgt := 355) hx hb d_M_compute_55 h_55_32 (by decide) (by decide) (by decide) rfl ?_
          refine lv_aload_n hx hb d_M_compute_355 rfl (lv_at hl 0 rfl) ?_
          refine lv_aload_n hx hb d_M_compute_356 rfl (lv_at hl 2 rfl) ?_
          refine c_iV [] S (c_M_setHandler l _ _ _ _ _ _ _ _ _ A (mW_D hD) j1 (by first | assumption | exact and7_lt _)) mf_M_setHandler ml_M_161 hK hN hP hS 0 2 rfl rfl ⟨rfl, rfl, Nat.le_of_ble_eq_true rfl, Nat.le_of_ble_eq_true rfl⟩ rfl hl.1 rfl (Nat.le_of_ble_eq_true rfl) d_M_compute_357 ⟨Nat.zero_le _, Nat.zero_le _⟩ (fun H locs hP hS => ?_)
          have hF : f_M_compute fB gT cK cd j1 j2 j3 iv = ((f_M_setHandler cK j1).1, fB, gT, (f_M_setHandler cK j1).2) := (if_pos h_3).trans ((if_neg h_32).trans ((if_pos h_38).trans ((if_neg h_55_2).trans ((if_neg h_55_3).trans ((if_neg h_55_7).trans ((if_neg h_55_8).trans ((if_neg h_55_9).trans ((if_neg h_55_10).trans ((if_neg h_55_11).trans ((if_neg h_55_12).trans ((if_neg h_55_13).trans ((if_neg h_55_14).trans ((if_neg h_55_15).trans ((if_neg h_55_29).trans ((if_neg h_55_30).trans ((if_neg h_55_31).trans ((if_pos h_55_32).trans (rfl))))))))))))))))))
          exact e_wi S hr hlocks hP hS (congrArg (fun z => z.1) hF.symm) (congrArg (fun z => mW q xa ad sS sC z.2.1 z.2.2.1 z.2.2.2) hF.symm) d_M_compute_360
        refine t_no [2, 3, 7, 8, 9, 10, 11, 12, 13, 14, 15, 29, 30, 31, 32] (tgt := 361) hx hb d_M_compute_55 (List.forall_mem_cons.mpr ⟨lv_neT h_55_2 (by decide), List.forall_mem_cons.mpr ⟨lv_neT h_55_3 (by decide), List.forall_mem_cons.mpr ⟨lv_neT h_55_7 (by decide), List.forall_mem_cons.mpr ⟨lv_neT h_55_8 (by decide), List.forall_mem_cons.mpr ⟨lv_neT h_55_9 (by decide), List.forall_mem_cons.mpr ⟨lv_neT h_55_10 (by decide), List.forall_mem_cons.mpr ⟨lv_neT h_55_11 (by decide), List.forall_mem_cons.mpr ⟨lv_neT h_55_12 (by decide), List.forall_mem_cons.mpr ⟨lv_neT h_55_13 (by decide), List.forall_mem_cons.mpr ⟨lv_neT h_55_14 (by decide), List.forall_mem_cons.mpr ⟨lv_neT h_55_15 (by decide), List.forall_mem_cons.mpr ⟨lv_neT h_55_29 (by decide), List.forall_mem_cons.mpr ⟨lv_neT h_55_30 (by decide), List.forall_mem_cons.mpr ⟨lv_neT h_55_31 (by decide), List.forall_mem_cons.mpr ⟨lv_neT h_55_32 (by decide), fun _ h => absurd h List.not_mem_nil⟩⟩⟩⟩⟩⟩⟩⟩⟩⟩⟩⟩⟩⟩⟩) (by decide) rfl ?_
        refine lv_bipush (v := (8 : Int32)) hx hb d_M_compute_361 (by decide) ?_
        have hF : f_M_compute fB gT cK cd j1 j2 j3 iv = ((8 : Int32), fB, gT, cK) := (if_pos h_3).trans ((if_neg h_32).trans ((if_pos h_38).trans ((if_neg h_55_2).trans ((if_neg h_55_3).trans ((if_neg h_55_7).trans ((if_neg h_55_8).trans ((if_neg h_55_9).trans ((if_neg h_55_10).trans ((if_neg h_55_11).trans ((if_neg h_55_12).trans ((if_neg h_55_13).trans ((if_neg h_55_14).trans ((if_neg h_55_15).trans ((if_neg h_55_29).trans ((if_neg h_55_30).trans ((if_neg h_55_31).trans ((if_neg h_55_32).trans (rfl))))))))))))))))))
        exact e_wi S hr hlocks hP hS (congrArg (fun z => z.1) hF.symm) (congrArg (fun z => mW q xa ad sS sC z.2.1 z.2.2.1 z.2.2.2) hF.symm) d_M_compute_363
      · -- 38: not taken
        refine lv_aload_n hx hb d_M_compute_41 rfl (lv_at hl 2 rfl) ?_
        refine lv_aload_n hx hb d_M_compute_42 rfl (lv_at hl 3 rfl) ?_
        refine lv_iload_n hx hb d_M_compute_43 rfl (lv_at hl 1 rfl) ?_
        refine lv_bipush (v := (23 : Int32)) hx hb d_M_compute_44 (by decide) ?_
        refine lv_isub hx hb d_M_compute_46 ?_
        refine c_pN [.ref (ad j1)] S (c_K_part l _ _ _ _ _ _ _ _ _ j2 (by first | assumption | exact and7_lt _) (cd - (23 : Int32))) mf_K_part mn_M_68 hK hN hP (5 + j2) 0 (mW_get (by first | assumption | exact and7_lt _)) rfl ⟨rfl, rfl, Nat.le_of_ble_eq_true rfl, Nat.le_of_ble_eq_true rfl⟩ rfl hl.1 rfl (Nat.le_of_ble_eq_true rfl) d_M_compute_47 ⟨Nat.zero_le _, Nat.zero_le _⟩ ?_
        refine c_iS [] S (c_M_number l _ _ _ _ _ _ _ _ _ A (mW_D hD) j1 (by first | assumption | exact and7_lt _) (f_K_part cK j2 (cd - (23 : Int32)))) mf_M_number ml_M_126 hK hN hP hS ⟨rfl, rfl, Nat.le_of_ble_eq_true rfl, Nat.le_of_ble_eq_true rfl⟩ rfl hl.1 rfl (Nat.le_of_ble_eq_true rfl) d_M_compute_50 ⟨Nat.zero_le _, Nat.zero_le _⟩ (fun H locs hP hS => ?_)
        have hF : f_M_compute fB gT cK cd j1 j2 j3 iv = ((f_M_number cK j1 (f_K_part cK j2 (cd - (23 : Int32)))).1, fB, gT, (f_M_number cK j1 (f_K_part cK j2 (cd - (23 : Int32)))).2) := (if_pos h_3).trans ((if_neg h_32).trans ((if_neg h_38).trans (rfl)))
        exact e_wi S hr hlocks hP hS (congrArg (fun z => z.1) hF.symm) (congrArg (fun z => mW q xa ad sS sC z.2.1 z.2.2.1 z.2.2.2) hF.symm) d_M_compute_53
  · -- 3: not taken
    refine lv_iload_n hx hb d_M_compute_6 rfl (lv_at hl 1 rfl) ?_
    refine lv_bipush (v := (22 : Int32)) hx hb d_M_compute_7 (by decide) ?_
    refine lv_icmp_gt (tgt := 29) hx hb d_M_compute_9 rfl (fun h_9 => ?_) (fun h_9 => ?_)
    · -- 9: taken
      refine lv_iload_n hx hb d_M_compute_29 rfl (lv_at hl 1 rfl) ?_
      refine lv_bipush (v := (23 : Int32)) hx hb d_M_compute_30 (by decide) ?_
      refine lv_icmp_lt (tgt := 54) hx hb d_M_compute_32 rfl (fun h_32 => ?_) (fun h_32 => ?_)
      · -- 32: taken
        refine lv_iload_n hx hb d_M_compute_54 rfl (lv_at hl 1 rfl) ?_
        by_cases h_55_2 : cd = (2 : Int32)
        · -- 55: case 2
          refine t_in (2 : Int32) (off := 137) (tgt := 192) hx hb d_M_compute_55 h_55_2 (by decide) (by decide) (by decide) rfl ?_
          refine lv_aload_n hx hb d_M_compute_192 rfl (lv_at hl 2 rfl) ?_
          refine lv_aload_n hx hb d_M_compute_193 rfl (lv_at hl 3 rfl) ?_
          refine k_getN (v := .int (k_a (cK j2))) S hK hP (by first | assumption | exact and7_lt _) 5 (by decide) hN fn_M_87 rfl d_M_compute_194 ?_
          refine lv_aload hx hb d_M_compute_197 (lv_at hl 4 rfl) ?_
          refine k_getN (v := .int (k_a (cK j3))) S hK hP (by first | assumption | exact and7_lt _) 5 (by decide) hN fn_M_87 rfl d_M_compute_199 ?_
          refine lv_iadd hx hb d_M_compute_202 ?_
          refine c_iS [] S (c_M_number l _ _ _ _ _ _ _ _ _ A (mW_D hD) j1 (by first | assumption | exact and7_lt _) ((k_a (cK j2)) + (k_a (cK j3)))) mf_M_number ml_M_126 hK hN hP hS ⟨rfl, rfl, Nat.le_of_ble_eq_true rfl, Nat.le_of_ble_eq_true rfl⟩ rfl hl.1 rfl (Nat.le_of_ble_eq_true rfl) d_M_compute_203 ⟨Nat.zero_le _, Nat.zero_le _⟩ (fun H locs hP hS => ?_)
          have hF : f_M_compute fB gT cK cd j1 j2 j3 iv = ((f_M_number cK j1 ((k_a (cK j2)) + (k_a (cK j3)))).1, fB, gT, (f_M_number cK j1 ((k_a (cK j2)) + (k_a (cK j3)))).2) := (if_neg h_3).trans ((if_pos h_9).trans ((if_pos h_32).trans ((if_pos h_55_2).trans (rfl))))
          exact e_wi S hr hlocks hP hS (congrArg (fun z => z.1) hF.symm) (congrArg (fun z => mW q xa ad sS sC z.2.1 z.2.2.1 z.2.2.2) hF.symm) d_M_compute_206
        by_cases h_55_3 : cd = (3 : Int32)
        · -- 55: case 3
          refine t_in (3 : Int32) (off := 152) (tgt := 207) hx hb d_M_compute_55 h_55_3 (by decide) (by decide) (by decide) rfl ?_
          refine lv_aload_n hx hb d_M_compute_207 rfl (lv_at hl 2 rfl) ?_
          refine lv_aload_n hx hb d_M_compute_208 rfl (lv_at hl 3 rfl) ?_
          refine k_getN (v := .int (k_a (cK j2))) S hK hP (by first | assumption | exact and7_lt _) 5 (by decide) hN fn_M_87 rfl d_M_compute_209 ?_
          refine lv_aload hx hb d_M_compute_212 (lv_at hl 4 rfl) ?_
          refine k_getN (v := .int (k_a (cK j3))) S hK hP (by first | assumption | exact and7_lt _) 5 (by decide) hN fn_M_87 rfl d_M_compute_214 ?_
          refine lv_isub hx hb d_M_compute_217 ?_
          refine c_iS [] S (c_M_number l _ _ _ _ _ _ _ _ _ A (mW_D hD) j1 (by first | assumption | exact and7_lt _) ((k_a (cK j2)) - (k_a (cK j3)))) mf_M_number ml_M_126 hK hN hP hS ⟨rfl, rfl, Nat.le_of_ble_eq_true rfl, Nat.le_of_ble_eq_true rfl⟩ rfl hl.1 rfl (Nat.le_of_ble_eq_true rfl) d_M_compute_218 ⟨Nat.zero_le _, Nat.zero_le _⟩ (fun H locs hP hS => ?_)
          have hF : f_M_compute fB gT cK cd j1 j2 j3 iv = ((f_M_number cK j1 ((k_a (cK j2)) - (k_a (cK j3)))).1, fB, gT, (f_M_number cK j1 ((k_a (cK j2)) - (k_a (cK j3)))).2) := (if_neg h_3).trans ((if_pos h_9).trans ((if_pos h_32).trans ((if_neg h_55_2).trans ((if_pos h_55_3).trans (rfl)))))
          exact e_wi S hr hlocks hP hS (congrArg (fun z => z.1) hF.symm) (congrArg (fun z => mW q xa ad sS sC z.2.1 z.2.2.1 z.2.2.2) hF.symm) d_M_compute_221
        by_cases h_55_7 : cd = (7 : Int32)
        · -- 55: case 7
          refine t_in (7 : Int32) (off := 167) (tgt := 222) hx hb d_M_compute_55 h_55_7 (by decide) (by decide) (by decide) rfl ?_
          refine lv_aload_n hx hb d_M_compute_222 rfl (lv_at hl 2 rfl) ?_
          refine lv_aload_n hx hb d_M_compute_223 rfl (lv_at hl 3 rfl) ?_
          refine c_iS [] S (c_M_copy l _ _ _ _ _ _ _ _ _ A (mW_D hD) j1 (by first | assumption | exact and7_lt _) j2 (by first | assumption | exact and7_lt _)) mf_M_copy ml_M_130 hK hN hP hS ⟨rfl, rfl, Nat.le_of_ble_eq_true rfl, Nat.le_of_ble_eq_true rfl⟩ rfl hl.1 rfl (Nat.le_of_ble_eq_true rfl) d_M_compute_224 ⟨Nat.zero_le _, Nat.zero_le _⟩ (fun H locs hP hS => ?_)
          have hF : f_M_compute fB gT cK cd j1 j2 j3 iv = ((f_M_copy cK j1 j2).1, fB, gT, (f_M_copy cK j1 j2).2) := (if_neg h_3).trans ((if_pos h_9).trans ((if_pos h_32).trans ((if_neg h_55_2).trans ((if_neg h_55_3).trans ((if_pos h_55_7).trans (rfl))))))
          exact e_wi S hr hlocks hP hS (congrArg (fun z => z.1) hF.symm) (congrArg (fun z => mW q xa ad sS sC z.2.1 z.2.2.1 z.2.2.2) hF.symm) d_M_compute_227
        by_cases h_55_8 : cd = (8 : Int32)
        · -- 55: case 8
          refine t_in (8 : Int32) (off := 173) (tgt := 228) hx hb d_M_compute_55 h_55_8 (by decide) (by decide) (by decide) rfl ?_
          refine lv_aload_n hx hb d_M_compute_228 rfl (lv_at hl 2 rfl) ?_
          refine lv_aload_n hx hb d_M_compute_229 rfl (lv_at hl 3 rfl) ?_
          refine lv_aload hx hb d_M_compute_230 (lv_at hl 4 rfl) ?_
          refine k_getN (v := .int (k_a (cK j3))) S hK hP (by first | assumption | exact and7_lt _) 5 (by decide) hN fn_M_87 rfl d_M_compute_232 ?_
          refine c_iS [] S (c_M_withAddress l _ _ _ _ _ _ _ _ _ A (mW_D hD) j1 (by first | assumption | exact and7_lt _) j2 (by first | assumption | exact and7_lt _) (k_a (cK j3))) mf_M_withAddress ml_M_133 hK hN hP hS ⟨rfl, rfl, Nat.le_of_ble_eq_true rfl, Nat.le_of_ble_eq_true rfl⟩ rfl hl.1 rfl (Nat.le_of_ble_eq_true rfl) d_M_compute_235 ⟨Nat.zero_le _, Nat.zero_le _⟩ (fun H locs hP hS => ?_)
          have hF : f_M_compute fB gT cK cd j1 j2 j3 iv = ((f_M_withAddress cK j1 j2 (k_a (cK j3))).1, fB, gT, (f_M_withAddress cK j1 j2 (k_a (cK j3))).2) := (if_neg h_3).trans ((if_pos h_9).trans ((if_pos h_32).trans ((if_neg h_55_2).trans ((if_neg h_55_3).trans ((if_neg h_55_7).trans ((if_pos h_55_8).trans (rfl)))))))
          exact e_wi S hr hlocks hP hS (congrArg (fun z => z.1) hF.symm) (congrArg (fun z => mW q xa ad sS sC z.2.1 z.2.2.1 z.2.2.2) hF.symm) d_M_compute_238
        by_cases h_55_9 : cd = (9 : Int32)
        · -- 55: case 9
          refine t_in (9 : Int32) (off := 184) (tgt := 239) hx hb d_M_compute_55 h_55_9 (by decide) (by decide) (by decide) rfl ?_
          refine lv_aload_n hx hb d_M_compute_239 rfl (lv_at hl 2 rfl) ?_
          refine lv_aload_n hx hb d_M_compute_240 rfl (lv_at hl 3 rfl) ?_
          refine lv_aload_n hx hb d_M_compute_241 rfl (lv_at hl 3 rfl) ?_
          refine k_getN (v := .int (k_a (cK j2))) S hK hP (by first | assumption | exact and7_lt _) 5 (by decide) hN fn_M_87 rfl d_M_compute_242 ?_
          refine lv_iload hx hb d_M_compute_245 (lv_at hl 5 rfl) ?_
          refine lv_iadd hx hb d_M_compute_247 ?_
          refine c_iS [] S (c_M_withAddress l _ _ _ _ _ _ _ _ _ A (mW_D hD) j1 (by first | assumption | exact and7_lt _) j2 (by first | assumption | exact and7_lt _) ((k_a (cK j2)) + iv)) mf_M_withAddress ml_M_133 hK hN hP hS ⟨rfl, rfl, Nat.le_of_ble_eq_true rfl, Nat.le_of_ble_eq_true rfl⟩ rfl hl.1 rfl (Nat.le_of_ble_eq_true rfl) d_M_compute_248 ⟨Nat.zero_le _, Nat.zero_le _⟩ (fun H locs hP hS => ?_)
          have hF : f_M_compute fB gT cK cd j1 j2 j3 iv = ((f_M_withAddress cK j1 j2 ((k_a (cK j2)) + iv)).1, fB, gT, (f_M_withAddress cK j1 j2 ((k_a (cK j2)) + iv)).2) := (if_neg h_3).trans ((if_pos h_9).trans ((if_pos h_32).trans ((if_neg h_55_2).trans ((if_neg h_55_3).trans ((if_neg h_55_7).trans ((if_neg h_55_8).trans ((if_pos h_55_9).trans (rfl))))))))
          exact e_wi S hr hlocks hP hS (congrArg (fun z => z.1) hF.symm) (congrArg (fun z => mW q xa ad sS sC z.2.1 z.2.2.1 z.2.2.2) hF.symm) d_M_compute_251
        by_cases h_55_10 : cd = (10 : Int32)
        · -- 55: case 10
          refine t_in (10 : Int32) (off := 197) (tgt := 252) hx hb d_M_compute_55 h_55_10 (by decide) (by decide) (by decide) rfl ?_
          refine lv_aload_n hx hb d_M_compute_252 rfl (lv_at hl 2 rfl) ?_
          refine lv_aload_n hx hb d_M_compute_253 rfl (lv_at hl 3 rfl) ?_
          refine lv_aload hx hb d_M_compute_254 (lv_at hl 4 rfl) ?_
          refine k_getN (v := .int (k_a (cK j3))) S hK hP (by first | assumption | exact and7_lt _) 5 (by decide) hN fn_M_87 rfl d_M_compute_256 ?_
          refine lv_iconst (v := (0 : Int32)) hx hb d_M_compute_259 (by decide) ?_
          refine c_iS [] S (c_M_withBounds l _ _ _ _ _ _ _ _ _ A (mW_D hD) j1 (by first | assumption | exact and7_lt _) j2 (by first | assumption | exact and7_lt _) (k_a (cK j3)) false) mf_M_withBounds ml_M_137 hK hN hP hS ⟨rfl, rfl, Nat.le_of_ble_eq_true rfl, Nat.le_of_ble_eq_true rfl⟩ rfl hl.1 rfl (Nat.le_of_ble_eq_true rfl) d_M_compute_260 ⟨Nat.zero_le _, Nat.zero_le _⟩ (fun H locs hP hS => ?_)
          have hF : f_M_compute fB gT cK cd j1 j2 j3 iv = ((f_M_withBounds cK j1 j2 (k_a (cK j3)) false).1, fB, gT, (f_M_withBounds cK j1 j2 (k_a (cK j3)) false).2) := (if_neg h_3).trans ((if_pos h_9).trans ((if_pos h_32).trans ((if_neg h_55_2).trans ((if_neg h_55_3).trans ((if_neg h_55_7).trans ((if_neg h_55_8).trans ((if_neg h_55_9).trans ((if_pos h_55_10).trans (rfl)))))))))
          exact e_wi S hr hlocks hP hS (congrArg (fun z => z.1) hF.symm) (congrArg (fun z => mW q xa ad sS sC z.2.1 z.2.2.1 z.2.2.2) hF.symm) d_M_compute_263
        by_cases h_55_11 : cd = (11 : Int32)
        · -- 55: case 11
          refine t_in (11 : Int32) (off := 209) (tgt := 264) hx hb d_M_compute_55 h_55_11 (by decide) (by decide) (by decide) rfl ?_
          refine lv_aload_n hx hb d_M_compute_264 rfl (lv_at hl 2 rfl) ?_
          refine lv_aload_n hx hb d_M_compute_265 rfl (lv_at hl 3 rfl) ?_
          refine lv_aload hx hb d_M_compute_266 (lv_at hl 4 rfl) ?_
          refine k_getN (v := .int (k_a (cK j3))) S hK hP (by first | assumption | exact and7_lt _) 5 (by decide) hN fn_M_87 rfl d_M_compute_268 ?_
          refine lv_iconst (v := (1 : Int32)) hx hb d_M_compute_271 (by decide) ?_
          refine c_iS [] S (c_M_withBounds l _ _ _ _ _ _ _ _ _ A (mW_D hD) j1 (by first | assumption | exact and7_lt _) j2 (by first | assumption | exact and7_lt _) (k_a (cK j3)) true) mf_M_withBounds ml_M_137 hK hN hP hS ⟨rfl, rfl, Nat.le_of_ble_eq_true rfl, Nat.le_of_ble_eq_true rfl⟩ rfl hl.1 rfl (Nat.le_of_ble_eq_true rfl) d_M_compute_272 ⟨Nat.zero_le _, Nat.zero_le _⟩ (fun H locs hP hS => ?_)
          have hF : f_M_compute fB gT cK cd j1 j2 j3 iv = ((f_M_withBounds cK j1 j2 (k_a (cK j3)) true).1, fB, gT, (f_M_withBounds cK j1 j2 (k_a (cK j3)) true).2) := (if_neg h_3).trans ((if_pos h_9).trans ((if_pos h_32).trans ((if_neg h_55_2).trans ((if_neg h_55_3).trans ((if_neg h_55_7).trans ((if_neg h_55_8).trans ((if_neg h_55_9).trans ((if_neg h_55_10).trans ((if_pos h_55_11).trans (rfl))))))))))
          exact e_wi S hr hlocks hP hS (congrArg (fun z => z.1) hF.symm) (congrArg (fun z => mW q xa ad sS sC z.2.1 z.2.2.1 z.2.2.2) hF.symm) d_M_compute_275
        by_cases h_55_12 : cd = (12 : Int32)
        · -- 55: case 12
          refine t_in (12 : Int32) (off := 221) (tgt := 276) hx hb d_M_compute_55 h_55_12 (by decide) (by decide) (by decide) rfl ?_
          refine lv_aload_n hx hb d_M_compute_276 rfl (lv_at hl 2 rfl) ?_
          refine lv_aload_n hx hb d_M_compute_277 rfl (lv_at hl 3 rfl) ?_
          refine lv_aload hx hb d_M_compute_278 (lv_at hl 4 rfl) ?_
          refine k_getN (v := .int (k_a (cK j3))) S hK hP (by first | assumption | exact and7_lt _) 5 (by decide) hN fn_M_87 rfl d_M_compute_280 ?_
          refine c_iS [] S (c_M_withPermissions l _ _ _ _ _ _ _ _ _ A (mW_D hD) j1 (by first | assumption | exact and7_lt _) j2 (by first | assumption | exact and7_lt _) (k_a (cK j3))) mf_M_withPermissions ml_M_141 hK hN hP hS ⟨rfl, rfl, Nat.le_of_ble_eq_true rfl, Nat.le_of_ble_eq_true rfl⟩ rfl hl.1 rfl (Nat.le_of_ble_eq_true rfl) d_M_compute_283 ⟨Nat.zero_le _, Nat.zero_le _⟩ (fun H locs hP hS => ?_)
          have hF : f_M_compute fB gT cK cd j1 j2 j3 iv = ((f_M_withPermissions cK j1 j2 (k_a (cK j3))).1, fB, gT, (f_M_withPermissions cK j1 j2 (k_a (cK j3))).2) := (if_neg h_3).trans ((if_pos h_9).trans ((if_pos h_32).trans ((if_neg h_55_2).trans ((if_neg h_55_3).trans ((if_neg h_55_7).trans ((if_neg h_55_8).trans ((if_neg h_55_9).trans ((if_neg h_55_10).trans ((if_neg h_55_11).trans ((if_pos h_55_12).trans (rfl)))))))))))
          exact e_wi S hr hlocks hP hS (congrArg (fun z => z.1) hF.symm) (congrArg (fun z => mW q xa ad sS sC z.2.1 z.2.2.1 z.2.2.2) hF.symm) d_M_compute_286
        by_cases h_55_13 : cd = (13 : Int32)
        · -- 55: case 13
          refine t_in (13 : Int32) (off := 232) (tgt := 287) hx hb d_M_compute_55 h_55_13 (by decide) (by decide) (by decide) rfl ?_
          refine lv_aload_n hx hb d_M_compute_287 rfl (lv_at hl 2 rfl) ?_
          refine lv_aload_n hx hb d_M_compute_288 rfl (lv_at hl 3 rfl) ?_
          refine lv_aload hx hb d_M_compute_289 (lv_at hl 4 rfl) ?_
          refine c_iS [] S (c_M_seal l _ _ _ _ _ _ _ _ _ A (mW_D hD) j1 (by first | assumption | exact and7_lt _) j2 (by first | assumption | exact and7_lt _) j3 (by first | assumption | exact and7_lt _)) mf_M_seal ml_M_144 hK hN hP hS ⟨rfl, rfl, Nat.le_of_ble_eq_true rfl, Nat.le_of_ble_eq_true rfl⟩ rfl hl.1 rfl (Nat.le_of_ble_eq_true rfl) d_M_compute_291 ⟨Nat.zero_le _, Nat.zero_le _⟩ (fun H locs hP hS => ?_)
          have hF : f_M_compute fB gT cK cd j1 j2 j3 iv = ((f_M_seal cK j1 j2 j3).1, fB, gT, (f_M_seal cK j1 j2 j3).2) := (if_neg h_3).trans ((if_pos h_9).trans ((if_pos h_32).trans ((if_neg h_55_2).trans ((if_neg h_55_3).trans ((if_neg h_55_7).trans ((if_neg h_55_8).trans ((if_neg h_55_9).trans ((if_neg h_55_10).trans ((if_neg h_55_11).trans ((if_neg h_55_12).trans ((if_pos h_55_13).trans (rfl))))))))))))
          exact e_wi S hr hlocks hP hS (congrArg (fun z => z.1) hF.symm) (congrArg (fun z => mW q xa ad sS sC z.2.1 z.2.2.1 z.2.2.2) hF.symm) d_M_compute_294
        by_cases h_55_14 : cd = (14 : Int32)
        · -- 55: case 14
          refine t_in (14 : Int32) (off := 240) (tgt := 295) hx hb d_M_compute_55 h_55_14 (by decide) (by decide) (by decide) rfl ?_
          refine lv_aload_n hx hb d_M_compute_295 rfl (lv_at hl 2 rfl) ?_
          refine lv_aload_n hx hb d_M_compute_296 rfl (lv_at hl 3 rfl) ?_
          refine lv_aload hx hb d_M_compute_297 (lv_at hl 4 rfl) ?_
          refine c_iS [] S (c_M_unseal l _ _ _ _ _ _ _ _ _ A (mW_D hD) j1 (by first | assumption | exact and7_lt _) j2 (by first | assumption | exact and7_lt _) j3 (by first | assumption | exact and7_lt _)) mf_M_unseal ml_M_148 hK hN hP hS ⟨rfl, rfl, Nat.le_of_ble_eq_true rfl, Nat.le_of_ble_eq_true rfl⟩ rfl hl.1 rfl (Nat.le_of_ble_eq_true rfl) d_M_compute_299 ⟨Nat.zero_le _, Nat.zero_le _⟩ (fun H locs hP hS => ?_)
          have hF : f_M_compute fB gT cK cd j1 j2 j3 iv = ((f_M_unseal cK j1 j2 j3).1, fB, gT, (f_M_unseal cK j1 j2 j3).2) := (if_neg h_3).trans ((if_pos h_9).trans ((if_pos h_32).trans ((if_neg h_55_2).trans ((if_neg h_55_3).trans ((if_neg h_55_7).trans ((if_neg h_55_8).trans ((if_neg h_55_9).trans ((if_neg h_55_10).trans ((if_neg h_55_11).trans ((if_neg h_55_12).trans ((if_neg h_55_13).trans ((if_pos h_55_14).trans (rfl)))))))))))))
          exact e_wi S hr hlocks hP hS (congrArg (fun z => z.1) hF.symm) (congrArg (fun z => mW q xa ad sS sC z.2.1 z.2.2.1 z.2.2.2) hF.symm) d_M_compute_302
        by_cases h_55_15 : cd = (15 : Int32)
        · -- 55: case 15
          refine t_in (15 : Int32) (off := 248) (tgt := 303) hx hb d_M_compute_55 h_55_15 (by decide) (by decide) (by decide) rfl ?_
          refine lv_aload_n hx hb d_M_compute_303 rfl (lv_at hl 2 rfl) ?_
          refine lv_aload_n hx hb d_M_compute_304 rfl (lv_at hl 3 rfl) ?_
          refine c_iS [] S (c_M_makeEntry l _ _ _ _ _ _ _ _ _ A (mW_D hD) j1 (by first | assumption | exact and7_lt _) j2 (by first | assumption | exact and7_lt _)) mf_M_makeEntry ml_M_151 hK hN hP hS ⟨rfl, rfl, Nat.le_of_ble_eq_true rfl, Nat.le_of_ble_eq_true rfl⟩ rfl hl.1 rfl (Nat.le_of_ble_eq_true rfl) d_M_compute_305 ⟨Nat.zero_le _, Nat.zero_le _⟩ (fun H locs hP hS => ?_)
          have hF : f_M_compute fB gT cK cd j1 j2 j3 iv = ((f_M_makeEntry cK j1 j2).1, fB, gT, (f_M_makeEntry cK j1 j2).2) := (if_neg h_3).trans ((if_pos h_9).trans ((if_pos h_32).trans ((if_neg h_55_2).trans ((if_neg h_55_3).trans ((if_neg h_55_7).trans ((if_neg h_55_8).trans ((if_neg h_55_9).trans ((if_neg h_55_10).trans ((if_neg h_55_11).trans ((if_neg h_55_12).trans ((if_neg h_55_13).trans ((if_neg h_55_14).trans ((if_pos h_55_15).trans (rfl))))))))))))))
          exact e_wi S hr hlocks hP hS (congrArg (fun z => z.1) hF.symm) (congrArg (fun z => mW q xa ad sS sC z.2.1 z.2.2.1 z.2.2.2) hF.symm) d_M_compute_308
        by_cases h_55_29 : cd = (29 : Int32)
        · -- 55: case 29
          refine t_in (29 : Int32) (off := 254) (tgt := 309) hx hb d_M_compute_55 h_55_29 (by decide) (by decide) (by decide) rfl ?_
          refine lv_aload_n hx hb d_M_compute_309 rfl (lv_at hl 2 rfl) ?_
          refine lv_aload_n hx hb d_M_compute_310 rfl (lv_at hl 3 rfl) ?_
          refine c_iS [] S (c_M_withoutTag l _ _ _ _ _ _ _ _ _ A (mW_D hD) j1 (by first | assumption | exact and7_lt _) j2 (by first | assumption | exact and7_lt _)) mf_M_withoutTag ml_M_154 hK hN hP hS ⟨rfl, rfl, Nat.le_of_ble_eq_true rfl, Nat.le_of_ble_eq_true rfl⟩ rfl hl.1 rfl (Nat.le_of_ble_eq_true rfl) d_M_compute_311 ⟨Nat.zero_le _, Nat.zero_le _⟩ (fun H locs hP hS => ?_)
          have hF : f_M_compute fB gT cK cd j1 j2 j3 iv = ((f_M_withoutTag cK j1 j2).1, fB, gT, (f_M_withoutTag cK j1 j2).2) := (if_neg h_3).trans ((if_pos h_9).trans ((if_pos h_32).trans ((if_neg h_55_2).trans ((if_neg h_55_3).trans ((if_neg h_55_7).trans ((if_neg h_55_8).trans ((if_neg h_55_9).trans ((if_neg h_55_10).trans ((if_neg h_55_11).trans ((if_neg h_55_12).trans ((if_neg h_55_13).trans ((if_neg h_55_14).trans ((if_neg h_55_15).trans ((if_pos h_55_29).trans (rfl)))))))))))))))
          exact e_wi S hr hlocks hP hS (congrArg (fun z => z.1) hF.symm) (congrArg (fun z => mW q xa ad sS sC z.2.1 z.2.2.1 z.2.2.2) hF.symm) d_M_compute_314
        by_cases h_55_30 : cd = (30 : Int32)
        · -- 55: case 30
          refine t_in (30 : Int32) (off := 260) (tgt := 315) hx hb d_M_compute_55 h_55_30 (by decide) (by decide) (by decide) rfl ?_
          refine lv_aload_n hx hb d_M_compute_315 rfl (lv_at hl 2 rfl) ?_
          refine lv_aload_n hx hb d_M_compute_316 rfl (lv_at hl 3 rfl) ?_
          refine lv_aload hx hb d_M_compute_317 (lv_at hl 4 rfl) ?_
          refine c_pN [.ref (ad j1)] S (c_K_isWithin l _ _ _ _ _ _ _ _ _ j2 (by first | assumption | exact and7_lt _) j3 (by first | assumption | exact and7_lt _)) mf_K_isWithin mn_M_157 hK hN hP (5 + j2) 0 (mW_get (by first | assumption | exact and7_lt _)) rfl ⟨rfl, rfl, Nat.le_of_ble_eq_true rfl, Nat.le_of_ble_eq_true rfl⟩ rfl hl.1 rfl (Nat.le_of_ble_eq_true rfl) d_M_compute_319 ⟨Nat.zero_le _, Nat.zero_le _⟩ ?_
          refine jn 330 ls [.ref (ad j1)] (b2i (if (f_K_isWithin cK j2 j3) = true then true else false)) ?_ (fun k_330 => ?_)
          · -- from 330 on
            refine c_iS [] S (c_M_number l _ _ _ _ _ _ _ _ _ A (mW_D hD) j1 (by first | assumption | exact and7_lt _) (b2i (if (f_K_isWithin cK j2 j3) = true then true else false))) mf_M_number ml_M_126 hK hN hP hS ⟨rfl, rfl, Nat.le_of_ble_eq_true rfl, Nat.le_of_ble_eq_true rfl⟩ rfl hl.1 rfl (Nat.le_of_ble_eq_true rfl) d_M_compute_330 ⟨Nat.zero_le _, Nat.zero_le _⟩ (fun H locs hP hS => ?_)
            have hF : f_M_compute fB gT cK cd j1 j2 j3 iv = ((f_M_number cK j1 (b2i (if (f_K_isWithin cK j2 j3) = true then true else false))).1, fB, gT, (f_M_number cK j1 (b2i (if (f_K_isWithin cK j2 j3) = true then true else false))).2) := (if_neg h_3).trans ((if_pos h_9).trans ((if_pos h_32).trans ((if_neg h_55_2).trans ((if_neg h_55_3).trans ((if_neg h_55_7).trans ((if_neg h_55_8).trans ((if_neg h_55_9).trans ((if_neg h_55_10).trans ((if_neg h_55_11).trans ((if_neg h_55_12).trans ((if_neg h_55_13).trans ((if_neg h_55_14).trans ((if_neg h_55_15).trans ((if_neg h_55_29).trans ((if_pos h_55_30).trans (rfl))))))))))))))))
            exact e_wi S hr hlocks hP hS (congrArg (fun z => z.1) hF.symm) (congrArg (fun z => mW q xa ad sS sC z.2.1 z.2.2.1 z.2.2.2) hF.symm) d_M_compute_333
          · -- to 330
            refine zb_eq (tgt := 329) hx hb d_M_compute_322 rfl (fun h_322 => ?_) (fun h_322 => ?_)
            · -- 322: taken
              refine lv_iconst (v := (0 : Int32)) hx hb d_M_compute_329 (by decide) ?_
              exact k_330 _ (congrArg b2i ((if_neg (bn_f h_322)).trans (rfl) : (if (f_K_isWithin cK j2 j3) = true then true else false) = false).symm)
            · -- 322: not taken
              refine lv_iconst (v := (1 : Int32)) hx hb d_M_compute_325 (by decide) ?_
              refine lv_goto (tgt := 330) hx hb d_M_compute_326 rfl ?_
              exact k_330 _ (congrArg b2i ((if_pos h_322).trans (rfl) : (if (f_K_isWithin cK j2 j3) = true then true else false) = true).symm)
        by_cases h_55_31 : cd = (31 : Int32)
        · -- 55: case 31
          refine t_in (31 : Int32) (off := 279) (tgt := 334) hx hb d_M_compute_55 h_55_31 (by decide) (by decide) (by decide) rfl ?_
          refine lv_aload_n hx hb d_M_compute_334 rfl (lv_at hl 2 rfl) ?_
          refine lv_aload_n hx hb d_M_compute_335 rfl (lv_at hl 0 rfl) ?_
          refine m_get S hK hP 1 (by decide) fl_M_16 rfl d_M_compute_336 ?_
          refine lv_aload_n hx hb d_M_compute_339 rfl (lv_at hl 0 rfl) ?_
          refine m_get S hK hP 1 (by decide) fl_M_16 rfl d_M_compute_340 ?_
          refine k_getN (v := .int (k_a (cK 8))) S hK hP (by decide) 5 (by decide) hN fn_M_87 rfl d_M_compute_343 ?_
          refine lv_iconst (v := (4 : Int32)) hx hb d_M_compute_346 (by decide) ?_
          refine lv_iload hx hb d_M_compute_347 (lv_at hl 5 rfl) ?_
          refine lv_imul hx hb d_M_compute_349 ?_
          refine lv_iadd hx hb d_M_compute_350 ?_
          refine c_iS [] S (c_M_withAddress l _ _ _ _ _ _ _ _ _ A (mW_D hD) j1 (by first | assumption | exact and7_lt _) 8 (by decide) ((k_a (cK 8)) + ((4 : Int32) * iv))) mf_M_withAddress ml_M_133 hK hN hP hS ⟨rfl, rfl, Nat.le_of_ble_eq_true rfl, Nat.le_of_ble_eq_true rfl⟩ rfl hl.1 rfl (Nat.le_of_ble_eq_true rfl) d_M_compute_351 ⟨Nat.zero_le _, Nat.zero_le _⟩ (fun H locs hP hS => ?_)
          have hF : f_M_compute fB gT cK cd j1 j2 j3 iv = ((f_M_withAddress cK j1 8 ((k_a (cK 8)) + ((4 : Int32) * iv))).1, fB, gT, (f_M_withAddress cK j1 8 ((k_a (cK 8)) + ((4 : Int32) * iv))).2) := (if_neg h_3).trans ((if_pos h_9).trans ((if_pos h_32).trans ((if_neg h_55_2).trans ((if_neg h_55_3).trans ((if_neg h_55_7).trans ((if_neg h_55_8).trans ((if_neg h_55_9).trans ((if_neg h_55_10).trans ((if_neg h_55_11).trans ((if_neg h_55_12).trans ((if_neg h_55_13).trans ((if_neg h_55_14).trans ((if_neg h_55_15).trans ((if_neg h_55_29).trans ((if_neg h_55_30).trans ((if_pos h_55_31).trans (rfl)))))))))))))))))
          exact e_wi S hr hlocks hP hS (congrArg (fun z => z.1) hF.symm) (congrArg (fun z => mW q xa ad sS sC z.2.1 z.2.2.1 z.2.2.2) hF.symm) d_M_compute_354
        by_cases h_55_32 : cd = (32 : Int32)
        · -- 55: case 32
          refine t_in (32 : Int32) (off := 300) (tgt := 355) hx hb d_M_compute_55 h_55_32 (by decide) (by decide) (by decide) rfl ?_
          refine lv_aload_n hx hb d_M_compute_355 rfl (lv_at hl 0 rfl) ?_
          refine lv_aload_n hx hb d_M_compute_356 rfl (lv_at hl 2 rfl) ?_
          refine c_iV [] S (c_M_setHandler l _ _ _ _ _ _ _ _ _ A (mW_D hD) j1 (by first | assumption | exact and7_lt _)) mf_M_setHandler ml_M_161 hK hN hP hS 0 2 rfl rfl ⟨rfl, rfl, Nat.le_of_ble_eq_true rfl, Nat.le_of_ble_eq_true rfl⟩ rfl hl.1 rfl (Nat.le_of_ble_eq_true rfl) d_M_compute_357 ⟨Nat.zero_le _, Nat.zero_le _⟩ (fun H locs hP hS => ?_)
          have hF : f_M_compute fB gT cK cd j1 j2 j3 iv = ((f_M_setHandler cK j1).1, fB, gT, (f_M_setHandler cK j1).2) := (if_neg h_3).trans ((if_pos h_9).trans ((if_pos h_32).trans ((if_neg h_55_2).trans ((if_neg h_55_3).trans ((if_neg h_55_7).trans ((if_neg h_55_8).trans ((if_neg h_55_9).trans ((if_neg h_55_10).trans ((if_neg h_55_11).trans ((if_neg h_55_12).trans ((if_neg h_55_13).trans ((if_neg h_55_14).trans ((if_neg h_55_15).trans ((if_neg h_55_29).trans ((if_neg h_55_30).trans ((if_neg h_55_31).trans ((if_pos h_55_32).trans (rfl))))))))))))))))))
          exact e_wi S hr hlocks hP hS (congrArg (fun z => z.1) hF.symm) (congrArg (fun z => mW q xa ad sS sC z.2.1 z.2.2.1 z.2.2.2) hF.symm) d_M_compute_360
        refine t_no [2, 3, 7, 8, 9, 10, 11, 12, 13, 14, 15, 29, 30, 31, 32] (tgt := 361) hx hb d_M_compute_55 (List.forall_mem_cons.mpr ⟨lv_neT h_55_2 (by decide), List.forall_mem_cons.mpr ⟨lv_neT h_55_3 (by decide), List.forall_mem_cons.mpr ⟨lv_neT h_55_7 (by decide), List.forall_mem_cons.mpr ⟨lv_neT h_55_8 (by decide), List.forall_mem_cons.mpr ⟨lv_neT h_55_9 (by decide), List.forall_mem_cons.mpr ⟨lv_neT h_55_10 (by decide), List.forall_mem_cons.mpr ⟨lv_neT h_55_11 (by decide), List.forall_mem_cons.mpr ⟨lv_neT h_55_12 (by decide), List.forall_mem_cons.mpr ⟨lv_neT h_55_13 (by decide), List.forall_mem_cons.mpr ⟨lv_neT h_55_14 (by decide), List.forall_mem_cons.mpr ⟨lv_neT h_55_15 (by decide), List.forall_mem_cons.mpr ⟨lv_neT h_55_29 (by decide), List.forall_mem_cons.mpr ⟨lv_neT h_55_30 (by decide), List.forall_mem_cons.mpr ⟨lv_neT h_55_31 (by decide), List.forall_mem_cons.mpr ⟨lv_neT h_55_32 (by decide), fun _ h => absurd h List.not_mem_nil⟩⟩⟩⟩⟩⟩⟩⟩⟩⟩⟩⟩⟩⟩⟩) (by decide) rfl ?_
        refine lv_bipush (v := (8 : Int32)) hx hb d_M_compute_361 (by decide) ?_
        have hF : f_M_compute fB gT cK cd j1 j2 j3 iv = ((8 : Int32), fB, gT, cK) := (if_neg h_3).trans ((if_pos h_9).trans ((if_pos h_32).trans ((if_neg h_55_2).trans ((if_neg h_55_3).trans ((if_neg h_55_7).trans ((if_neg h_55_8).trans ((if_neg h_55_9).trans ((if_neg h_55_10).trans ((if_neg h_55_11).trans ((if_neg h_55_12).trans ((if_neg h_55_13).trans ((if_neg h_55_14).trans ((if_neg h_55_15).trans ((if_neg h_55_29).trans ((if_neg h_55_30).trans ((if_neg h_55_31).trans ((if_neg h_55_32).trans (rfl))))))))))))))))))
        exact e_wi S hr hlocks hP hS (congrArg (fun z => z.1) hF.symm) (congrArg (fun z => mW q xa ad sS sC z.2.1 z.2.2.1 z.2.2.2) hF.symm) d_M_compute_363
      · -- 32: not taken
        refine lv_iload_n hx hb d_M_compute_35 rfl (lv_at hl 1 rfl) ?_
        refine lv_bipush (v := (28 : Int32)) hx hb d_M_compute_36 (by decide) ?_
        refine lv_icmp_gt (tgt := 54) hx hb d_M_compute_38 rfl (fun h_38 => ?_) (fun h_38 => ?_)
        · -- 38: taken
          refine lv_iload_n hx hb d_M_compute_54 rfl (lv_at hl 1 rfl) ?_
          by_cases h_55_2 : cd = (2 : Int32)
          · -- 55: case 2
            refine t_in (2 : Int32) (off := 137) (tgt := 192) hx hb d_M_compute_55 h_55_2 (by decide) (by decide) (by decide) rfl ?_
            refine lv_aload_n hx hb d_M_compute_192 rfl (lv_at hl 2 rfl) ?_
            refine lv_aload_n hx hb d_M_compute_193 rfl (lv_at hl 3 rfl) ?_
            refine k_getN (v := .int (k_a (cK j2))) S hK hP (by first | assumption | exact and7_lt _) 5 (by decide) hN fn_M_87 rfl d_M_compute_194 ?_
            refine lv_aload hx hb d_M_compute_197 (lv_at hl 4 rfl) ?_
            refine k_getN (v := .int (k_a (cK j3))) S hK hP (by first | assumption | exact and7_lt _) 5 (by decide) hN fn_M_87 rfl d_M_compute_199 ?_
            refine lv_iadd hx hb d_M_compute_202 ?_
            refine c_iS [] S (c_M_number l _ _ _ _ _ _ _ _ _ A (mW_D hD) j1 (by first | assumption | exact and7_lt _) ((k_a (cK j2)) + (k_a (cK j3)))) mf_M_number ml_M_126 hK hN hP hS ⟨rfl, rfl, Nat.le_of_ble_eq_true rfl, Nat.le_of_ble_eq_true rfl⟩ rfl hl.1 rfl (Nat.le_of_ble_eq_true rfl) d_M_compute_203 ⟨Nat.zero_le _, Nat.zero_le _⟩ (fun H locs hP hS => ?_)
            have hF : f_M_compute fB gT cK cd j1 j2 j3 iv = ((f_M_number cK j1 ((k_a (cK j2)) + (k_a (cK j3)))).1, fB, gT, (f_M_number cK j1 ((k_a (cK j2)) + (k_a (cK j3)))).2) := (if_neg h_3).trans ((if_pos h_9).trans ((if_neg h_32).trans ((if_pos h_38).trans ((if_pos h_55_2).trans (rfl)))))
            exact e_wi S hr hlocks hP hS (congrArg (fun z => z.1) hF.symm) (congrArg (fun z => mW q xa ad sS sC z.2.1 z.2.2.1 z.2.2.2) hF.symm) d_M_compute_206
          by_cases h_55_3 : cd = (3 : Int32)
          · -- 55: case 3
            refine t_in (3 : Int32) (off := 152) (tgt := 207) hx hb d_M_compute_55 h_55_3 (by decide) (by decide) (by decide) rfl ?_
            refine lv_aload_n hx hb d_M_compute_207 rfl (lv_at hl 2 rfl) ?_
            refine lv_aload_n hx hb d_M_compute_208 rfl (lv_at hl 3 rfl) ?_
            refine k_getN (v := .int (k_a (cK j2))) S hK hP (by first | assumption | exact and7_lt _) 5 (by decide) hN fn_M_87 rfl d_M_compute_209 ?_
            refine lv_aload hx hb d_M_compute_212 (lv_at hl 4 rfl) ?_
            refine k_getN (v := .int (k_a (cK j3))) S hK hP (by first | assumption | exact and7_lt _) 5 (by decide) hN fn_M_87 rfl d_M_compute_214 ?_
            refine lv_isub hx hb d_M_compute_217 ?_
            refine c_iS [] S (c_M_number l _ _ _ _ _ _ _ _ _ A (mW_D hD) j1 (by first | assumption | exact and7_lt _) ((k_a (cK j2)) - (k_a (cK j3)))) mf_M_number ml_M_126 hK hN hP hS ⟨rfl, rfl, Nat.le_of_ble_eq_true rfl, Nat.le_of_ble_eq_true rfl⟩ rfl hl.1 rfl (Nat.le_of_ble_eq_true rfl) d_M_compute_218 ⟨Nat.zero_le _, Nat.zero_le _⟩ (fun H locs hP hS => ?_)
            have hF : f_M_compute fB gT cK cd j1 j2 j3 iv = ((f_M_number cK j1 ((k_a (cK j2)) - (k_a (cK j3)))).1, fB, gT, (f_M_number cK j1 ((k_a (cK j2)) - (k_a (cK j3)))).2) := (if_neg h_3).trans ((if_pos h_9).trans ((if_neg h_32).trans ((if_pos h_38).trans ((if_neg h_55_2).trans ((if_pos h_55_3).trans (rfl))))))
            exact e_wi S hr hlocks hP hS (congrArg (fun z => z.1) hF.symm) (congrArg (fun z => mW q xa ad sS sC z.2.1 z.2.2.1 z.2.2.2) hF.symm) d_M_compute_221
          by_cases h_55_7 : cd = (7 : Int32)
          · -- 55: case 7
            refine t_in (7 : Int32) (off := 167) (tgt := 222) hx hb d_M_compute_55 h_55_7 (by decide) (by decide) (by decide) rfl ?_
            refine lv_aload_n hx hb d_M_compute_222 rfl (lv_at hl 2 rfl) ?_
            refine lv_aload_n hx hb d_M_compute_223 rfl (lv_at hl 3 rfl) ?_
            refine c_iS [] S (c_M_copy l _ _ _ _ _ _ _ _ _ A (mW_D hD) j1 (by first | assumption | exact and7_lt _) j2 (by first | assumption | exact and7_lt _)) mf_M_copy ml_M_130 hK hN hP hS ⟨rfl, rfl, Nat.le_of_ble_eq_true rfl, Nat.le_of_ble_eq_true rfl⟩ rfl hl.1 rfl (Nat.le_of_ble_eq_true rfl) d_M_compute_224 ⟨Nat.zero_le _, Nat.zero_le _⟩ (fun H locs hP hS => ?_)
            have hF : f_M_compute fB gT cK cd j1 j2 j3 iv = ((f_M_copy cK j1 j2).1, fB, gT, (f_M_copy cK j1 j2).2) := (if_neg h_3).trans ((if_pos h_9).trans ((if_neg h_32).trans ((if_pos h_38).trans ((if_neg h_55_2).trans ((if_neg h_55_3).trans ((if_pos h_55_7).trans (rfl)))))))
            exact e_wi S hr hlocks hP hS (congrArg (fun z => z.1) hF.symm) (congrArg (fun z => mW q xa ad sS sC z.2.1 z.2.2.1 z.2.2.2) hF.symm) d_M_compute_227
          by_cases h_55_8 : cd = (8 : Int32)
          · -- 55: case 8
            refine t_in (8 : Int32) (off := 173) (tgt := 228) hx hb d_M_compute_55 h_55_8 (by decide) (by decide) (by decide) rfl ?_
            refine lv_aload_n hx hb d_M_compute_228 rfl (lv_at hl 2 rfl) ?_
            refine lv_aload_n hx hb d_M_compute_229 rfl (lv_at hl 3 rfl) ?_
            refine lv_aload hx hb d_M_compute_230 (lv_at hl 4 rfl) ?_
            refine k_getN (v := .int (k_a (cK j3))) S hK hP (by first | assumption | exact and7_lt _) 5 (by decide) hN fn_M_87 rfl d_M_compute_232 ?_
            refine c_iS [] S (c_M_withAddress l _ _ _ _ _ _ _ _ _ A (mW_D hD) j1 (by first | assumption | exact and7_lt _) j2 (by first | assumption | exact and7_lt _) (k_a (cK j3))) mf_M_withAddress ml_M_133 hK hN hP hS ⟨rfl, rfl, Nat.le_of_ble_eq_true rfl, Nat.le_of_ble_eq_true rfl⟩ rfl hl.1 rfl (Nat.le_of_ble_eq_true rfl) d_M_compute_235 ⟨Nat.zero_le _, Nat.zero_le _⟩ (fun H locs hP hS => ?_)
            have hF : f_M_compute fB gT cK cd j1 j2 j3 iv = ((f_M_withAddress cK j1 j2 (k_a (cK j3))).1, fB, gT, (f_M_withAddress cK j1 j2 (k_a (cK j3))).2) := (if_neg h_3).trans ((if_pos h_9).trans ((if_neg h_32).trans ((if_pos h_38).trans ((if_neg h_55_2).trans ((if_neg h_55_3).trans ((if_neg h_55_7).trans ((if_pos h_55_8).trans (rfl))))))))
            exact e_wi S hr hlocks hP hS (congrArg (fun z => z.1) hF.symm) (congrArg (fun z => mW q xa ad sS sC z.2.1 z.2.2.1 z.2.2.2) hF.symm) d_M_compute_238
          by_cases h_55_9 : cd = (9 : Int32)
          · -- 55: case 9
            refine t_in (9 : Int32) (off := 184) (tgt := 239) hx hb d_M_compute_55 h_55_9 (by decide) (by decide) (by decide) rfl ?_
            refine lv_aload_n hx hb d_M_compute_239 rfl (lv_at hl 2 rfl) ?_
            refine lv_aload_n hx hb d_M_compute_240 rfl (lv_at hl 3 rfl) ?_
            refine lv_aload_n hx hb d_M_compute_241 rfl (lv_at hl 3 rfl) ?_
            refine k_getN (v := .int (k_a (cK j2))) S hK hP (by first | assumption | exact and7_lt _) 5 (by decide) hN fn_M_87 rfl d_M_compute_242 ?_
            refine lv_iload hx hb d_M_compute_245 (lv_at hl 5 rfl) ?_
            refine lv_iadd hx hb d_M_compute_247 ?_
            refine c_iS [] S (c_M_withAddress l _ _ _ _ _ _ _ _ _ A (mW_D hD) j1 (by first | assumption | exact and7_lt _) j2 (by first | assumption | exact and7_lt _) ((k_a (cK j2)) + iv)) mf_M_withAddress ml_M_133 hK hN hP hS ⟨rfl, rfl, Nat.le_of_ble_eq_true rfl, Nat.le_of_ble_eq_true rfl⟩ rfl hl.1 rfl (Nat.le_of_ble_eq_true rfl) d_M_compute_248 ⟨Nat.zero_le _, Nat.zero_le _⟩ (fun H locs hP hS => ?_)
            have hF : f_M_compute fB gT cK cd j1 j2 j3 iv = ((f_M_withAddress cK j1 j2 ((k_a (cK j2)) + iv)).1, fB, gT, (f_M_withAddress cK j1 j2 ((k_a (cK j2)) + iv)).2) := (if_neg h_3).trans ((if_pos h_9).trans ((if_neg h_32).trans ((if_pos h_38).trans ((if_neg h_55_2).trans ((if_neg h_55_3).trans ((if_neg h_55_7).trans ((if_neg h_55_8).trans ((if_pos h_55_9).trans (rfl)))))))))
            exact e_wi S hr hlocks hP hS (congrArg (fun z => z.1) hF.symm) (congrArg (fun z => mW q xa ad sS sC z.2.1 z.2.2.1 z.2.2.2) hF.symm) d_M_compute_251
          by_cases h_55_10 : cd = (10 : Int32)
          · -- 55: case 10
            refine t_in (10 : Int32) (off := 197) (tgt := 252) hx hb d_M_compute_55 h_55_10 (by decide) (by decide) (by decide) rfl ?_
            refine lv_aload_n hx hb d_M_compute_252 rfl (lv_at hl 2 rfl) ?_
            refine lv_aload_n hx hb d_M_compute_253 rfl (lv_at hl 3 rfl) ?_
            refine lv_aload hx hb d_M_compute_254 (lv_at hl 4 rfl) ?_
            refine k_getN (v := .int (k_a (cK j3))) S hK hP (by first | assumption | exact and7_lt _) 5 (by decide) hN fn_M_87 rfl d_M_compute_256 ?_
            refine lv_iconst (v := (0 : Int32)) hx hb d_M_compute_259 (by decide) ?_
            refine c_iS [] S (c_M_withBounds l _ _ _ _ _ _ _ _ _ A (mW_D hD) j1 (by first | assumption | exact and7_lt _) j2 (by first | assumption | exact and7_lt _) (k_a (cK j3)) false) mf_M_withBounds ml_M_137 hK hN hP hS ⟨rfl, rfl, Nat.le_of_ble_eq_true rfl, Nat.le_of_ble_eq_true rfl⟩ rfl hl.1 rfl (Nat.le_of_ble_eq_true rfl) d_M_compute_260 ⟨Nat.zero_le _, Nat.zero_le _⟩ (fun H locs hP hS => ?_)
            have hF : f_M_compute fB gT cK cd j1 j2 j3 iv = ((f_M_withBounds cK j1 j2 (k_a (cK j3)) false).1, fB, gT, (f_M_withBounds cK j1 j2 (k_a (cK j3)) false).2) := (if_neg h_3).trans ((if_pos h_9).trans ((if_neg h_32).trans ((if_pos h_38).trans ((if_neg h_55_2).trans ((if_neg h_55_3).trans ((if_neg h_55_7).trans ((if_neg h_55_8).trans ((if_neg h_55_9).trans ((if_pos h_55_10).trans (rfl))))))))))
            exact e_wi S hr hlocks hP hS (congrArg (fun z => z.1) hF.symm) (congrArg (fun z => mW q xa ad sS sC z.2.1 z.2.2.1 z.2.2.2) hF.symm) d_M_compute_263
          by_cases h_55_11 : cd = (11 : Int32)
          · -- 55: case 11
            refine t_in (11 : Int32) (off := 209) (tgt := 264) hx hb d_M_compute_55 h_55_11 (by decide) (by decide) (by decide) rfl ?_
            refine lv_aload_n hx hb d_M_compute_264 rfl (lv_at hl 2 rfl) ?_
            refine lv_aload_n hx hb d_M_compute_265 rfl (lv_at hl 3 rfl) ?_
            refine lv_aload hx hb d_M_compute_266 (lv_at hl 4 rfl) ?_
            refine k_getN (v := .int (k_a (cK j3))) S hK hP (by first | assumption | exact and7_lt _) 5 (by decide) hN fn_M_87 rfl d_M_compute_268 ?_
            refine lv_iconst (v := (1 : Int32)) hx hb d_M_compute_271 (by decide) ?_
            refine c_iS [] S (c_M_withBounds l _ _ _ _ _ _ _ _ _ A (mW_D hD) j1 (by first | assumption | exact and7_lt _) j2 (by first | assumption | exact and7_lt _) (k_a (cK j3)) true) mf_M_withBounds ml_M_137 hK hN hP hS ⟨rfl, rfl, Nat.le_of_ble_eq_true rfl, Nat.le_of_ble_eq_true rfl⟩ rfl hl.1 rfl (Nat.le_of_ble_eq_true rfl) d_M_compute_272 ⟨Nat.zero_le _, Nat.zero_le _⟩ (fun H locs hP hS => ?_)
            have hF : f_M_compute fB gT cK cd j1 j2 j3 iv = ((f_M_withBounds cK j1 j2 (k_a (cK j3)) true).1, fB, gT, (f_M_withBounds cK j1 j2 (k_a (cK j3)) true).2) := (if_neg h_3).trans ((if_pos h_9).trans ((if_neg h_32).trans ((if_pos h_38).trans ((if_neg h_55_2).trans ((if_neg h_55_3).trans ((if_neg h_55_7).trans ((if_neg h_55_8).trans ((if_neg h_55_9).trans ((if_neg h_55_10).trans ((if_pos h_55_11).trans (rfl)))))))))))
            exact e_wi S hr hlocks hP hS (congrArg (fun z => z.1) hF.symm) (congrArg (fun z => mW q xa ad sS sC z.2.1 z.2.2.1 z.2.2.2) hF.symm) d_M_compute_275
          by_cases h_55_12 : cd = (12 : Int32)
          · -- 55: case 12
            refine t_in (12 : Int32) (off := 221) (tgt := 276) hx hb d_M_compute_55 h_55_12 (by decide) (by decide) (by decide) rfl ?_
            refine lv_aload_n hx hb d_M_compute_276 rfl (lv_at hl 2 rfl) ?_
            refine lv_aload_n hx hb d_M_compute_277 rfl (lv_at hl 3 rfl) ?_
            refine lv_aload hx hb d_M_compute_278 (lv_at hl 4 rfl) ?_
            refine k_getN (v := .int (k_a (cK j3))) S hK hP (by first | assumption | exact and7_lt _) 5 (by decide) hN fn_M_87 rfl d_M_compute_280 ?_
            refine c_iS [] S (c_M_withPermissions l _ _ _ _ _ _ _ _ _ A (mW_D hD) j1 (by first | assumption | exact and7_lt _) j2 (by first | assumption | exact and7_lt _) (k_a (cK j3))) mf_M_withPermissions ml_M_141 hK hN hP hS ⟨rfl, rfl, Nat.le_of_ble_eq_true rfl, Nat.le_of_ble_eq_true rfl⟩ rfl hl.1 rfl (Nat.le_of_ble_eq_true rfl) d_M_compute_283 ⟨Nat.zero_le _, Nat.zero_le _⟩ (fun H locs hP hS => ?_)
            have hF : f_M_compute fB gT cK cd j1 j2 j3 iv = ((f_M_withPermissions cK j1 j2 (k_a (cK j3))).1, fB, gT, (f_M_withPermissions cK j1 j2 (k_a (cK j3))).2) := (if_neg h_3).trans ((if_pos h_9).trans ((if_neg h_32).trans ((if_pos h_38).trans ((if_neg h_55_2).trans ((if_neg h_55_3).trans ((if_neg h_55_7).trans ((if_neg h_55_8).trans ((if_neg h_55_9).trans ((if_neg h_55_10).trans ((if_neg h_55_11).trans ((if_pos h_55_12).trans (rfl))))))))))))
            exact e_wi S hr hlocks hP hS (congrArg (fun z => z.1) hF.symm) (congrArg (fun z => mW q xa ad sS sC z.2.1 z.2.2.1 z.2.2.2) hF.symm) d_M_compute_286
          by_cases h_55_13 : cd = (13 : Int32)
          · -- 55: case 13
            refine t_in (13 : Int32) (off := 232) (tgt := 287) hx hb d_M_compute_55 h_55_13 (by decide) (by decide) (by decide) rfl ?_
            refine lv_aload_n hx hb d_M_compute_287 rfl (lv_at hl 2 rfl) ?_
            refine lv_aload_n hx hb d_M_compute_288 rfl (lv_at hl 3 rfl) ?_
            refine lv_aload hx hb d_M_compute_289 (lv_at hl 4 rfl) ?_
            refine c_iS [] S (c_M_seal l _ _ _ _ _ _ _ _ _ A (mW_D hD) j1 (by first | assumption | exact and7_lt _) j2 (by first | assumption | exact and7_lt _) j3 (by first | assumption | exact and7_lt _)) mf_M_seal ml_M_144 hK hN hP hS ⟨rfl, rfl, Nat.le_of_ble_eq_true rfl, Nat.le_of_ble_eq_true rfl⟩ rfl hl.1 rfl (Nat.le_of_ble_eq_true rfl) d_M_compute_291 ⟨Nat.zero_le _, Nat.zero_le _⟩ (fun H locs hP hS => ?_)
            have hF : f_M_compute fB gT cK cd j1 j2 j3 iv = ((f_M_seal cK j1 j2 j3).1, fB, gT, (f_M_seal cK j1 j2 j3).2) := (if_neg h_3).trans ((if_pos h_9).trans ((if_neg h_32).trans ((if_pos h_38).trans ((if_neg h_55_2).trans ((if_neg h_55_3).trans ((if_neg h_55_7).trans ((if_neg h_55_8).trans ((if_neg h_55_9).trans ((if_neg h_55_10).trans ((if_neg h_55_11).trans ((if_neg h_55_12).trans ((if_pos h_55_13).trans (rfl)))))))))))))
            exact e_wi S hr hlocks hP hS (congrArg (fun z => z.1) hF.symm) (congrArg (fun z => mW q xa ad sS sC z.2.1 z.2.2.1 z.2.2.2) hF.symm) d_M_compute_294
          by_cases h_55_14 : cd = (14 : Int32)
          · -- 55: case 14
            refine t_in (14 : Int32) (off := 240) (tgt := 295) hx hb d_M_compute_55 h_55_14 (by decide) (by decide) (by decide) rfl ?_
            refine lv_aload_n hx hb d_M_compute_295 rfl (lv_at hl 2 rfl) ?_
            refine lv_aload_n hx hb d_M_compute_296 rfl (lv_at hl 3 rfl) ?_
            refine lv_aload hx hb d_M_compute_297 (lv_at hl 4 rfl) ?_
            refine c_iS [] S (c_M_unseal l _ _ _ _ _ _ _ _ _ A (mW_D hD) j1 (by first | assumption | exact and7_lt _) j2 (by first | assumption | exact and7_lt _) j3 (by first | assumption | exact and7_lt _)) mf_M_unseal ml_M_148 hK hN hP hS ⟨rfl, rfl, Nat.le_of_ble_eq_true rfl, Nat.le_of_ble_eq_true rfl⟩ rfl hl.1 rfl (Nat.le_of_ble_eq_true rfl) d_M_compute_299 ⟨Nat.zero_le _, Nat.zero_le _⟩ (fun H locs hP hS => ?_)
            have hF : f_M_compute fB gT cK cd j1 j2 j3 iv = ((f_M_unseal cK j1 j2 j3).1, fB, gT, (f_M_unseal cK j1 j2 j3).2) := (if_neg h_3).trans ((if_pos h_9).trans ((if_neg h_32).trans ((if_pos h_38).trans ((if_neg h_55_2).trans ((if_neg h_55_3).trans ((if_neg h_55_7).trans ((if_neg h_55_8).trans ((if_neg h_55_9).trans ((if_neg h_55_10).trans ((if_neg h_55_11).trans ((if_neg h_55_12).trans ((if_neg h_55_13).trans ((if_pos h_55_14).trans (rfl))))))))))))))
            exact e_wi S hr hlocks hP hS (congrArg (fun z => z.1) hF.symm) (congrArg (fun z => mW q xa ad sS sC z.2.1 z.2.2.1 z.2.2.2) hF.symm) d_M_compute_302
          by_cases h_55_15 : cd = (15 : Int32)
          · -- 55: case 15
            refine t_in (15 : Int32) (off := 248) (tgt := 303) hx hb d_M_compute_55 h_55_15 (by decide) (by decide) (by decide) rfl ?_
            refine lv_aload_n hx hb d_M_compute_303 rfl (lv_at hl 2 rfl) ?_
            refine lv_aload_n hx hb d_M_compute_304 rfl (lv_at hl 3 rfl) ?_
            refine c_iS [] S (c_M_makeEntry l _ _ _ _ _ _ _ _ _ A (mW_D hD) j1 (by first | assumption | exact and7_lt _) j2 (by first | assumption | exact and7_lt _)) mf_M_makeEntry ml_M_151 hK hN hP hS ⟨rfl, rfl, Nat.le_of_ble_eq_true rfl, Nat.le_of_ble_eq_true rfl⟩ rfl hl.1 rfl (Nat.le_of_ble_eq_true rfl) d_M_compute_305 ⟨Nat.zero_le _, Nat.zero_le _⟩ (fun H locs hP hS => ?_)
            have hF : f_M_compute fB gT cK cd j1 j2 j3 iv = ((f_M_makeEntry cK j1 j2).1, fB, gT, (f_M_makeEntry cK j1 j2).2) := (if_neg h_3).trans ((if_pos h_9).trans ((if_neg h_32).trans ((if_pos h_38).trans ((if_neg h_55_2).trans ((if_neg h_55_3).trans ((if_neg h_55_7).trans ((if_neg h_55_8).trans ((if_neg h_55_9).trans ((if_neg h_55_10).trans ((if_neg h_55_11).trans ((if_neg h_55_12).trans ((if_neg h_55_13).trans ((if_neg h_55_14).trans ((if_pos h_55_15).trans (rfl)))))))))))))))
            exact e_wi S hr hlocks hP hS (congrArg (fun z => z.1) hF.symm) (congrArg (fun z => mW q xa ad sS sC z.2.1 z.2.2.1 z.2.2.2) hF.symm) d_M_compute_308
          by_cases h_55_29 : cd = (29 : Int32)
          · -- 55: case 29
            refine t_in (29 : Int32) (off := 254) (tgt := 309) hx hb d_M_compute_55 h_55_29 (by decide) (by decide) (by decide) rfl ?_
            refine lv_aload_n hx hb d_M_compute_309 rfl (lv_at hl 2 rfl) ?_
            refine lv_aload_n hx hb d_M_compute_310 rfl (lv_at hl 3 rfl) ?_
            refine c_iS [] S (c_M_withoutTag l _ _ _ _ _ _ _ _ _ A (mW_D hD) j1 (by first | assumption | exact and7_lt _) j2 (by first | assumption | exact and7_lt _)) mf_M_withoutTag ml_M_154 hK hN hP hS ⟨rfl, rfl, Nat.le_of_ble_eq_true rfl, Nat.le_of_ble_eq_true rfl⟩ rfl hl.1 rfl (Nat.le_of_ble_eq_true rfl) d_M_compute_311 ⟨Nat.zero_le _, Nat.zero_le _⟩ (fun H locs hP hS => ?_)
            have hF : f_M_compute fB gT cK cd j1 j2 j3 iv = ((f_M_withoutTag cK j1 j2).1, fB, gT, (f_M_withoutTag cK j1 j2).2) := (if_neg h_3).trans ((if_pos h_9).trans ((if_neg h_32).trans ((if_pos h_38).trans ((if_neg h_55_2).trans ((if_neg h_55_3).trans ((if_neg h_55_7).trans ((if_neg h_55_8).trans ((if_neg h_55_9).trans ((if_neg h_55_10).trans ((if_neg h_55_11).trans ((if_neg h_55_12).trans ((if_neg h_55_13).trans ((if_neg h_55_14).trans ((if_neg h_55_15).trans ((if_pos h_55_29).trans (rfl))))))))))))))))
            exact e_wi S hr hlocks hP hS (congrArg (fun z => z.1) hF.symm) (congrArg (fun z => mW q xa ad sS sC z.2.1 z.2.2.1 z.2.2.2) hF.symm) d_M_compute_314
          by_cases h_55_30 : cd = (30 : Int32)
          · -- 55: case 30
            refine t_in (30 : Int32) (off := 260) (tgt := 315) hx hb d_M_compute_55 h_55_30 (by decide) (by decide) (by decide) rfl ?_
            refine lv_aload_n hx hb d_M_compute_315 rfl (lv_at hl 2 rfl) ?_
            refine lv_aload_n hx hb d_M_compute_316 rfl (lv_at hl 3 rfl) ?_
            refine lv_aload hx hb d_M_compute_317 (lv_at hl 4 rfl) ?_
            refine c_pN [.ref (ad j1)] S (c_K_isWithin l _ _ _ _ _ _ _ _ _ j2 (by first | assumption | exact and7_lt _) j3 (by first | assumption | exact and7_lt _)) mf_K_isWithin mn_M_157 hK hN hP (5 + j2) 0 (mW_get (by first | assumption | exact and7_lt _)) rfl ⟨rfl, rfl, Nat.le_of_ble_eq_true rfl, Nat.le_of_ble_eq_true rfl⟩ rfl hl.1 rfl (Nat.le_of_ble_eq_true rfl) d_M_compute_319 ⟨Nat.zero_le _, Nat.zero_le _⟩ ?_
            refine jn 330 ls [.ref (ad j1)] (b2i (if (f_K_isWithin cK j2 j3) = true then true else false)) ?_ (fun k_330 => ?_)
            · -- from 330 on
              refine c_iS [] S (c_M_number l _ _ _ _ _ _ _ _ _ A (mW_D hD) j1 (by first | assumption | exact and7_lt _) (b2i (if (f_K_isWithin cK j2 j3) = true then true else false))) mf_M_number ml_M_126 hK hN hP hS ⟨rfl, rfl, Nat.le_of_ble_eq_true rfl, Nat.le_of_ble_eq_true rfl⟩ rfl hl.1 rfl (Nat.le_of_ble_eq_true rfl) d_M_compute_330 ⟨Nat.zero_le _, Nat.zero_le _⟩ (fun H locs hP hS => ?_)
              have hF : f_M_compute fB gT cK cd j1 j2 j3 iv = ((f_M_number cK j1 (b2i (if (f_K_isWithin cK j2 j3) = true then true else false))).1, fB, gT, (f_M_number cK j1 (b2i (if (f_K_isWithin cK j2 j3) = true then true else false))).2) := (if_neg h_3).trans ((if_pos h_9).trans ((if_neg h_32).trans ((if_pos h_38).trans ((if_neg h_55_2).trans ((if_neg h_55_3).trans ((if_neg h_55_7).trans ((if_neg h_55_8).trans ((if_neg h_55_9).trans ((if_neg h_55_10).trans ((if_neg h_55_11).trans ((if_neg h_55_12).trans ((if_neg h_55_13).trans ((if_neg h_55_14).trans ((if_neg h_55_15).trans ((if_neg h_55_29).trans ((if_pos h_55_30).trans (rfl)))))))))))))))))
              exact e_wi S hr hlocks hP hS (congrArg (fun z => z.1) hF.symm) (congrArg (fun z => mW q xa ad sS sC z.2.1 z.2.2.1 z.2.2.2) hF.symm) d_M_compute_333
            · -- to 330
              refine zb_eq (tgt := 329) hx hb d_M_compute_322 rfl (fun h_322 => ?_) (fun h_322 => ?_)
              · -- 322: taken
                refine lv_iconst (v := (0 : Int32)) hx hb d_M_compute_329 (by decide) ?_
                exact k_330 _ (congrArg b2i ((if_neg (bn_f h_322)).trans (rfl) : (if (f_K_isWithin cK j2 j3) = true then true else false) = false).symm)
              · -- 322: not taken
                refine lv_iconst (v := (1 : Int32)) hx hb d_M_compute_325 (by decide) ?_
                refine lv_goto (tgt := 330) hx hb d_M_compute_326 rfl ?_
                exact k_330 _ (congrArg b2i ((if_pos h_322).trans (rfl) : (if (f_K_isWithin cK j2 j3) = true then true else false) = true).symm)
          by_cases h_55_31 : cd = (31 : Int32)
          · -- 55: case 31
            refine t_in (31 : Int32) (off := 279) (tgt := 334) hx hb d_M_compute_55 h_55_31 (by decide) (by decide) (by decide) rfl ?_
            refine lv_aload_n hx hb d_M_compute_334 rfl (lv_at hl 2 rfl) ?_
            refine lv_aload_n hx hb d_M_compute_335 rfl (lv_at hl 0 rfl) ?_
            refine m_get S hK hP 1 (by decide) fl_M_16 rfl d_M_compute_336 ?_
            refine lv_aload_n hx hb d_M_compute_339 rfl (lv_at hl 0 rfl) ?_
            refine m_get S hK hP 1 (by decide) fl_M_16 rfl d_M_compute_340 ?_
            refine k_getN (v := .int (k_a (cK 8))) S hK hP (by decide) 5 (by decide) hN fn_M_87 rfl d_M_compute_343 ?_
            refine lv_iconst (v := (4 : Int32)) hx hb d_M_compute_346 (by decide) ?_
            refine lv_iload hx hb d_M_compute_347 (lv_at hl 5 rfl) ?_
            refine lv_imul hx hb d_M_compute_349 ?_
            refine lv_iadd hx hb d_M_compute_350 ?_
            refine c_iS [] S (c_M_withAddress l _ _ _ _ _ _ _ _ _ A (mW_D hD) j1 (by first | assumption | exact and7_lt _) 8 (by decide) ((k_a (cK 8)) + ((4 : Int32) * iv))) mf_M_withAddress ml_M_133 hK hN hP hS ⟨rfl, rfl, Nat.le_of_ble_eq_true rfl, Nat.le_of_ble_eq_true rfl⟩ rfl hl.1 rfl (Nat.le_of_ble_eq_true rfl) d_M_compute_351 ⟨Nat.zero_le _, Nat.zero_le _⟩ (fun H locs hP hS => ?_)
            have hF : f_M_compute fB gT cK cd j1 j2 j3 iv = ((f_M_withAddress cK j1 8 ((k_a (cK 8)) + ((4 : Int32) * iv))).1, fB, gT, (f_M_withAddress cK j1 8 ((k_a (cK 8)) + ((4 : Int32) * iv))).2) := (if_neg h_3).trans ((if_pos h_9).trans ((if_neg h_32).trans ((if_pos h_38).trans ((if_neg h_55_2).trans ((if_neg h_55_3).trans ((if_neg h_55_7).trans ((if_neg h_55_8).trans ((if_neg h_55_9).trans ((if_neg h_55_10).trans ((if_neg h_55_11).trans ((if_neg h_55_12).trans ((if_neg h_55_13).trans ((if_neg h_55_14).trans ((if_neg h_55_15).trans ((if_neg h_55_29).trans ((if_neg h_55_30).trans ((if_pos h_55_31).trans (rfl))))))))))))))))))
            exact e_wi S hr hlocks hP hS (congrArg (fun z => z.1) hF.symm) (congrArg (fun z => mW q xa ad sS sC z.2.1 z.2.2.1 z.2.2.2) hF.symm) d_M_compute_354
          by_cases h_55_32 : cd = (32 : Int32)
          · -- 55: case 32
            refine t_in (32 : Int32) (off := 300) (tgt := 355) hx hb d_M_compute_55 h_55_32 (by decide) (by decide) (by decide) rfl ?_
            refine lv_aload_n hx hb d_M_compute_355 rfl (lv_at hl 0 rfl) ?_
            refine lv_aload_n hx hb d_M_compute_356 rfl (lv_at hl 2 rfl) ?_
            refine c_iV [] S (c_M_setHandler l _ _ _ _ _ _ _ _ _ A (mW_D hD) j1 (by first | assumption | exact and7_lt _)) mf_M_setHandler ml_M_161 hK hN hP hS 0 2 rfl rfl ⟨rfl, rfl, Nat.le_of_ble_eq_true rfl, Nat.le_of_ble_eq_true rfl⟩ rfl hl.1 rfl (Nat.le_of_ble_eq_true rfl) d_M_compute_357 ⟨Nat.zero_le _, Nat.zero_le _⟩ (fun H locs hP hS => ?_)
            have hF : f_M_compute fB gT cK cd j1 j2 j3 iv = ((f_M_setHandler cK j1).1, fB, gT, (f_M_setHandler cK j1).2) := (if_neg h_3).trans ((if_pos h_9).trans ((if_neg h_32).trans ((if_pos h_38).trans ((if_neg h_55_2).trans ((if_neg h_55_3).trans ((if_neg h_55_7).trans ((if_neg h_55_8).trans ((if_neg h_55_9).trans ((if_neg h_55_10).trans ((if_neg h_55_11).trans ((if_neg h_55_12).trans ((if_neg h_55_13).trans ((if_neg h_55_14).trans ((if_neg h_55_15).trans ((if_neg h_55_29).trans ((if_neg h_55_30).trans ((if_neg h_55_31).trans ((if_pos h_55_32).trans (rfl)))))))))))))))))))
            exact e_wi S hr hlocks hP hS (congrArg (fun z => z.1) hF.symm) (congrArg (fun z => mW q xa ad sS sC z.2.1 z.2.2.1 z.2.2.2) hF.symm) d_M_compute_360
          refine t_no [2, 3, 7, 8, 9, 10, 11, 12, 13, 14, 15, 29, 30, 31, 32] (tgt := 361) hx hb d_M_compute_55 (List.forall_mem_cons.mpr ⟨lv_neT h_55_2 (by decide), List.forall_mem_cons.mpr ⟨lv_neT h_55_3 (by decide), List.forall_mem_cons.mpr ⟨lv_neT h_55_7 (by decide), List.forall_mem_cons.mpr ⟨lv_neT h_55_8 (by decide), List.forall_mem_cons.mpr ⟨lv_neT h_55_9 (by decide), List.forall_mem_cons.mpr ⟨lv_neT h_55_10 (by decide), List.forall_mem_cons.mpr ⟨lv_neT h_55_11 (by decide), List.forall_mem_cons.mpr ⟨lv_neT h_55_12 (by decide), List.forall_mem_cons.mpr ⟨lv_neT h_55_13 (by decide), List.forall_mem_cons.mpr ⟨lv_neT h_55_14 (by decide), List.forall_mem_cons.mpr ⟨lv_neT h_55_15 (by decide), List.forall_mem_cons.mpr ⟨lv_neT h_55_29 (by decide), List.forall_mem_cons.mpr ⟨lv_neT h_55_30 (by decide), List.forall_mem_cons.mpr ⟨lv_neT h_55_31 (by decide), List.forall_mem_cons.mpr ⟨lv_neT h_55_32 (by decide), fun _ h => absurd h List.not_mem_nil⟩⟩⟩⟩⟩⟩⟩⟩⟩⟩⟩⟩⟩⟩⟩) (by decide) rfl ?_
          refine lv_bipush (v := (8 : Int32)) hx hb d_M_compute_361 (by decide) ?_
          have hF : f_M_compute fB gT cK cd j1 j2 j3 iv = ((8 : Int32), fB, gT, cK) := (if_neg h_3).trans ((if_pos h_9).trans ((if_neg h_32).trans ((if_pos h_38).trans ((if_neg h_55_2).trans ((if_neg h_55_3).trans ((if_neg h_55_7).trans ((if_neg h_55_8).trans ((if_neg h_55_9).trans ((if_neg h_55_10).trans ((if_neg h_55_11).trans ((if_neg h_55_12).trans ((if_neg h_55_13).trans ((if_neg h_55_14).trans ((if_neg h_55_15).trans ((if_neg h_55_29).trans ((if_neg h_55_30).trans ((if_neg h_55_31).trans ((if_neg h_55_32).trans (rfl)))))))))))))))))))
          exact e_wi S hr hlocks hP hS (congrArg (fun z => z.1) hF.symm) (congrArg (fun z => mW q xa ad sS sC z.2.1 z.2.2.1 z.2.2.2) hF.symm) d_M_compute_363
        · -- 38: not taken
          refine lv_aload_n hx hb d_M_compute_41 rfl (lv_at hl 2 rfl) ?_
          refine lv_aload_n hx hb d_M_compute_42 rfl (lv_at hl 3 rfl) ?_
          refine lv_iload_n hx hb d_M_compute_43 rfl (lv_at hl 1 rfl) ?_
          refine lv_bipush (v := (23 : Int32)) hx hb d_M_compute_44 (by decide) ?_
          refine lv_isub hx hb d_M_compute_46 ?_
          refine c_pN [.ref (ad j1)] S (c_K_part l _ _ _ _ _ _ _ _ _ j2 (by first | assumption | exact and7_lt _) (cd - (23 : Int32))) mf_K_part mn_M_68 hK hN hP (5 + j2) 0 (mW_get (by first | assumption | exact and7_lt _)) rfl ⟨rfl, rfl, Nat.le_of_ble_eq_true rfl, Nat.le_of_ble_eq_true rfl⟩ rfl hl.1 rfl (Nat.le_of_ble_eq_true rfl) d_M_compute_47 ⟨Nat.zero_le _, Nat.zero_le _⟩ ?_
          refine c_iS [] S (c_M_number l _ _ _ _ _ _ _ _ _ A (mW_D hD) j1 (by first | assumption | exact and7_lt _) (f_K_part cK j2 (cd - (23 : Int32)))) mf_M_number ml_M_126 hK hN hP hS ⟨rfl, rfl, Nat.le_of_ble_eq_true rfl, Nat.le_of_ble_eq_true rfl⟩ rfl hl.1 rfl (Nat.le_of_ble_eq_true rfl) d_M_compute_50 ⟨Nat.zero_le _, Nat.zero_le _⟩ (fun H locs hP hS => ?_)
          have hF : f_M_compute fB gT cK cd j1 j2 j3 iv = ((f_M_number cK j1 (f_K_part cK j2 (cd - (23 : Int32)))).1, fB, gT, (f_M_number cK j1 (f_K_part cK j2 (cd - (23 : Int32)))).2) := (if_neg h_3).trans ((if_pos h_9).trans ((if_neg h_32).trans ((if_neg h_38).trans (rfl))))
          exact e_wi S hr hlocks hP hS (congrArg (fun z => z.1) hF.symm) (congrArg (fun z => mW q xa ad sS sC z.2.1 z.2.2.1 z.2.2.2) hF.symm) d_M_compute_53
    · -- 9: not taken
      refine lv_aload_n hx hb d_M_compute_12 rfl (lv_at hl 0 rfl) ?_
      refine lv_iload_n hx hb d_M_compute_13 rfl (lv_at hl 1 rfl) ?_
      refine lv_aload_n hx hb d_M_compute_14 rfl (lv_at hl 2 rfl) ?_
      refine lv_aload_n hx hb d_M_compute_15 rfl (lv_at hl 3 rfl) ?_
      refine lv_aload_n hx hb d_M_compute_16 rfl (lv_at hl 3 rfl) ?_
      refine k_getN (v := .int (k_a (cK j2))) S hK hP (by first | assumption | exact and7_lt _) 5 (by decide) hN fn_M_87 rfl d_M_compute_17 ?_
      refine lv_i2l (v := (k_a (cK j2)).toInt64) hx hb d_M_compute_20 rfl ?_
      refine lv_iload hx hb d_M_compute_21 (lv_at hl 5 rfl) ?_
      refine lv_i2l (v := iv.toInt64) hx hb d_M_compute_23 rfl ?_
      refine lv_ladd hx hb d_M_compute_24 ?_
      refine c_iV [] S (c_M_access l _ _ _ _ _ _ _ _ _ A (mW_D hD) cd j1 (by first | assumption | exact and7_lt _) j2 (by first | assumption | exact and7_lt _) (((k_a (cK j2)).toInt64) + iv.toInt64) (by first | assumption | exact in_k rfl | decide) (ls_0 _ _) (ls_1 _ _)) mf_M_access ml_M_122 hK hN hP hS 0 2 rfl rfl ⟨rfl, rfl, Nat.le_of_ble_eq_true rfl, Nat.le_of_ble_eq_true rfl⟩ rfl hl.1 rfl (Nat.le_of_ble_eq_true rfl) d_M_compute_25 ⟨Nat.zero_le _, Nat.zero_le _⟩ (fun H locs hP hS => ?_)
      have hF : f_M_compute fB gT cK cd j1 j2 j3 iv = ((f_M_access fB gT cK cd j1 j2 (((k_a (cK j2)).toInt64) + iv.toInt64)).1, (f_M_access fB gT cK cd j1 j2 (((k_a (cK j2)).toInt64) + iv.toInt64)).2.1, (f_M_access fB gT cK cd j1 j2 (((k_a (cK j2)).toInt64) + iv.toInt64)).2.2.1, (f_M_access fB gT cK cd j1 j2 (((k_a (cK j2)).toInt64) + iv.toInt64)).2.2.2) := (if_neg h_3).trans ((if_neg h_9).trans (rfl))
      exact e_wi S hr hlocks hP hS (congrArg (fun z => z.1) hF.symm) (congrArg (fun z => mW q xa ad sS sC z.2.1 z.2.2.1 z.2.2.2) hF.symm) d_M_compute_28
def f_M_jump (cK : Nat → Cp) (j1 : Nat) (j2 : Nat) : Int32 × (Nat → Cp) :=
  if (k_v (cK j2)) = true then (if (k_y (cK j2)) ≤ (1 : Int32) then (if (f_K_permits cK j2 (4 : Int32)) = true then ((0 : Int32), (f_K_become (va_up (f_K_become (va_up (f_K_moveTo (f_K_become cK 11 8) 11 ((k_a ((f_K_become cK 11 8) 8)) + (4 : Int32))) 11 (s_y ((f_K_moveTo (f_K_become cK 11 8) 11 ((k_a ((f_K_become cK 11 8) 8)) + (4 : Int32))) 11) (1 : Int32))) 8 j2) 8 (s_y ((f_K_become (va_up (f_K_moveTo (f_K_become cK 11 8) 11 ((k_a ((f_K_become cK 11 8) 8)) + (4 : Int32))) 11 (s_y ((f_K_moveTo (f_K_become cK 11 8) 11 ((k_a ((f_K_become cK 11 8) 8)) + (4 : Int32))) 11) (1 : Int32))) 8 j2) 8) (0 : Int32))) j1 11))
      else ((3 : Int32), cK))
    else ((2 : Int32), cK))
  else ((1 : Int32), cK)
set_option maxHeartbeats 4000000 in
set_option maxRecDepth 100000 in
theorem c_M_jump (l : Launch) (D : va_G) (q : Nat → ClassId) (xa ad : Nat → Nat) (sS : Int32) (sC : Int32) (fB : Nat → Int32) (gT : Nat → Bool) (cK : Nat → Cp) (A : Nat → Prop) (hD : va_D A (mW q xa ad sS sC fB gT cK)) (j1 : Nat) (hj1 : j1 < 12) (j2 : Nat) (hj2 : j2 < 12) : WMi l y_M_jump b_M_jump 3 (some .int) ({ frames := 1, cells := 0, slots := 0, locals := 22 }) [.ref (xa 0), .ref (ad j1), .ref (ad j2)] D (tyM q) (mW q xa ad sS sC fB gT cK) (mW q xa ad sS sC fB gT ((f_M_jump cK j1 j2).2)) A (((f_M_jump cK j1 j2).1)) := by
  refine ofI (by decide) (Nat.le_of_ble_eq_true rfl) ?_
  intro p e s m below meth c ls S hr hlocks hK hN hP hl
  have hx := S.1
  have hb := S.2.1
  have hS : va_S A s.heap s.heap [] := va_S.rf
  have hl : lv_has ls 3 [(0, .ref (xa 0)), (1, .ref (ad j1)), (2, .ref (ad j2))] := hl
  refine lv_aload_n hx hb d_M_jump_0 rfl (lv_at hl 2 rfl) ?_
  refine k_getN (v := .int (b2i (k_v (cK j2)))) S hK hP (by first | assumption | exact and7_lt _) 0 (by decide) hN fn_M_83 rfl d_M_jump_1 ?_
  refine zb_ne (tgt := 9) hx hb d_M_jump_4 rfl (fun h_4 => ?_) (fun h_4 => ?_)
  · -- 4: taken
    refine lv_aload_n hx hb d_M_jump_9 rfl (lv_at hl 2 rfl) ?_
    refine k_getN (v := .int (k_y (cK j2))) S hK hP (by first | assumption | exact and7_lt _) 4 (by decide) hN fn_M_115 rfl d_M_jump_10 ?_
    refine lv_iconst (v := (1 : Int32)) hx hb d_M_jump_13 (by decide) ?_
    refine lv_icmp_le (tgt := 19) hx hb d_M_jump_14 rfl (fun h_14 => ?_) (fun h_14 => ?_)
    · -- 14: taken
      refine lv_aload_n hx hb d_M_jump_19 rfl (lv_at hl 2 rfl) ?_
      refine lv_iconst (v := (4 : Int32)) hx hb d_M_jump_20 (by decide) ?_
      refine c_pN [] S (c_K_permits l _ _ _ _ _ _ _ _ _ j2 (by first | assumption | exact and7_lt _) (4 : Int32)) mf_K_permits mn_M_118 hK hN hP (5 + j2) 0 (mW_get (by first | assumption | exact and7_lt _)) rfl ⟨rfl, rfl, Nat.le_of_ble_eq_true rfl, Nat.le_of_ble_eq_true rfl⟩ rfl hl.1 rfl (Nat.le_of_ble_eq_true rfl) d_M_jump_21 ⟨Nat.zero_le _, Nat.zero_le _⟩ ?_
      refine zb_ne (tgt := 29) hx hb d_M_jump_24 rfl (fun h_24 => ?_) (fun h_24 => ?_)
      · -- 24: taken
        refine lv_aload_n hx hb d_M_jump_29 rfl (lv_at hl 0 rfl) ?_
        refine m_get S hK hP 4 (by decide) fl_M_26 rfl d_M_jump_30 ?_
        refine lv_aload_n hx hb d_M_jump_33 rfl (lv_at hl 0 rfl) ?_
        refine m_get S hK hP 1 (by decide) fl_M_16 rfl d_M_jump_34 ?_
        refine c_vN [] S (c_K_become l _ _ _ _ _ _ _ _ _ A (mW_D hD) 11 (by decide) 8 (by decide)) mf_K_become mn_M_79 hK hN hP hS (5 + 11) 0 (mW_get (by decide)) rfl ⟨rfl, rfl, Nat.le_of_ble_eq_true rfl, Nat.le_of_ble_eq_true rfl⟩ rfl hl.1 rfl (Nat.le_of_ble_eq_true rfl) d_M_jump_37 ⟨Nat.zero_le _, Nat.zero_le _⟩ (fun H locs hP hS => ?_)
        refine lv_aload_n hx hb d_M_jump_40 rfl (lv_at hl 0 rfl) ?_
        refine m_get S hK hP 4 (by decide) fl_M_26 rfl d_M_jump_41 ?_
        refine lv_aload_n hx hb d_M_jump_44 rfl (lv_at hl 0 rfl) ?_
        refine m_get S hK hP 1 (by decide) fl_M_16 rfl d_M_jump_45 ?_
        refine k_getN (v := .int (k_a ((f_K_become cK 11 8) 8))) S hK hP (by decide) 5 (by decide) hN fn_M_87 rfl d_M_jump_48 ?_
        refine lv_iconst (v := (4 : Int32)) hx hb d_M_jump_51 (by decide) ?_
        refine lv_iadd hx hb d_M_jump_52 ?_
        refine c_vN [] S (c_K_moveTo l _ _ _ _ _ _ _ _ _ A (mW_D hD) 11 (by decide) ((k_a ((f_K_become cK 11 8) 8)) + (4 : Int32))) mf_K_moveTo mn_M_112 hK hN hP hS (5 + 11) 0 (mW_get (by decide)) rfl ⟨rfl, rfl, Nat.le_of_ble_eq_true rfl, Nat.le_of_ble_eq_true rfl⟩ rfl hl.1 rfl (Nat.le_of_ble_eq_true rfl) d_M_jump_53 ⟨Nat.zero_le _, Nat.zero_le _⟩ (fun H locs hP hS => ?_)
        refine lv_aload_n hx hb d_M_jump_56 rfl (lv_at hl 0 rfl) ?_
        refine m_get S hK hP 4 (by decide) fl_M_26 rfl d_M_jump_57 ?_
        refine lv_iconst (v := (1 : Int32)) hx hb d_M_jump_60 (by decide) ?_
        refine k_putN S hK hP (mW_D hD) hS (by decide) 4 (by decide) hN fn_M_115 (s_y ((f_K_moveTo (f_K_become cK 11 8) 11 ((k_a ((f_K_become cK 11 8) 8)) + (4 : Int32))) 11) (1 : Int32)) rfl rfl rfl d_M_jump_61 (fun H locs hP hS => ?_)
        refine lv_aload_n hx hb d_M_jump_64 rfl (lv_at hl 0 rfl) ?_
        refine m_get S hK hP 1 (by decide) fl_M_16 rfl d_M_jump_65 ?_
        refine lv_aload_n hx hb d_M_jump_68 rfl (lv_at hl 2 rfl) ?_
        refine c_vN [] S (c_K_become l _ _ _ _ _ _ _ _ _ A (mW_D hD) 8 (by decide) j2 (by first | assumption | exact and7_lt _)) mf_K_become mn_M_79 hK hN hP hS (5 + 8) 0 (mW_get (by decide)) rfl ⟨rfl, rfl, Nat.le_of_ble_eq_true rfl, Nat.le_of_ble_eq_true rfl⟩ rfl hl.1 rfl (Nat.le_of_ble_eq_true rfl) d_M_jump_69 ⟨Nat.zero_le _, Nat.zero_le _⟩ (fun H locs hP hS => ?_)
        refine lv_aload_n hx hb d_M_jump_72 rfl (lv_at hl 0 rfl) ?_
        refine m_get S hK hP 1 (by decide) fl_M_16 rfl d_M_jump_73 ?_
        refine lv_iconst (v := (0 : Int32)) hx hb d_M_jump_76 (by decide) ?_
        refine k_putN S hK hP (mW_D hD) hS (by decide) 4 (by decide) hN fn_M_115 (s_y ((f_K_become (va_up (f_K_moveTo (f_K_become cK 11 8) 11 ((k_a ((f_K_become cK 11 8) 8)) + (4 : Int32))) 11 (s_y ((f_K_moveTo (f_K_become cK 11 8) 11 ((k_a ((f_K_become cK 11 8) 8)) + (4 : Int32))) 11) (1 : Int32))) 8 j2) 8) (0 : Int32)) rfl rfl rfl d_M_jump_77 (fun H locs hP hS => ?_)
        refine lv_aload_n hx hb d_M_jump_80 rfl (lv_at hl 1 rfl) ?_
        refine lv_aload_n hx hb d_M_jump_81 rfl (lv_at hl 0 rfl) ?_
        refine m_get S hK hP 4 (by decide) fl_M_26 rfl d_M_jump_82 ?_
        refine c_vN [] S (c_K_become l _ _ _ _ _ _ _ _ _ A (mW_D hD) j1 (by first | assumption | exact and7_lt _) 11 (by decide)) mf_K_become mn_M_79 hK hN hP hS (5 + j1) 0 (mW_get (by first | assumption | exact and7_lt _)) rfl ⟨rfl, rfl, Nat.le_of_ble_eq_true rfl, Nat.le_of_ble_eq_true rfl⟩ rfl hl.1 rfl (Nat.le_of_ble_eq_true rfl) d_M_jump_85 ⟨Nat.zero_le _, Nat.zero_le _⟩ (fun H locs hP hS => ?_)
        refine lv_iconst (v := (0 : Int32)) hx hb d_M_jump_88 (by decide) ?_
        have hF : f_M_jump cK j1 j2 = ((0 : Int32), (f_K_become (va_up (f_K_become (va_up (f_K_moveTo (f_K_become cK 11 8) 11 ((k_a ((f_K_become cK 11 8) 8)) + (4 : Int32))) 11 (s_y ((f_K_moveTo (f_K_become cK 11 8) 11 ((k_a ((f_K_become cK 11 8) 8)) + (4 : Int32))) 11) (1 : Int32))) 8 j2) 8 (s_y ((f_K_become (va_up (f_K_moveTo (f_K_become cK 11 8) 11 ((k_a ((f_K_become cK 11 8) 8)) + (4 : Int32))) 11 (s_y ((f_K_moveTo (f_K_become cK 11 8) 11 ((k_a ((f_K_become cK 11 8) 8)) + (4 : Int32))) 11) (1 : Int32))) 8 j2) 8) (0 : Int32))) j1 11)) := (if_pos h_4).trans ((if_pos h_14).trans ((if_pos h_24).trans (rfl)))
        exact e_wi S hr hlocks hP hS (congrArg (fun z => z.1) hF.symm) (congrArg (fun z => mW q xa ad sS sC fB gT z.2) hF.symm) d_M_jump_89
      · -- 24: not taken
        refine lv_iconst (v := (3 : Int32)) hx hb d_M_jump_27 (by decide) ?_
        have hF : f_M_jump cK j1 j2 = ((3 : Int32), cK) := (if_pos h_4).trans ((if_pos h_14).trans ((if_neg (bn_f h_24)).trans (rfl)))
        exact e_wi S hr hlocks hP hS (congrArg (fun z => z.1) hF.symm) (congrArg (fun z => mW q xa ad sS sC fB gT z.2) hF.symm) d_M_jump_28
    · -- 14: not taken
      refine lv_iconst (v := (2 : Int32)) hx hb d_M_jump_17 (by decide) ?_
      have hF : f_M_jump cK j1 j2 = ((2 : Int32), cK) := (if_pos h_4).trans ((if_neg h_14).trans (rfl))
      exact e_wi S hr hlocks hP hS (congrArg (fun z => z.1) hF.symm) (congrArg (fun z => mW q xa ad sS sC fB gT z.2) hF.symm) d_M_jump_18
  · -- 4: not taken
    refine lv_iconst (v := (1 : Int32)) hx hb d_M_jump_7 (by decide) ?_
    have hF : f_M_jump cK j1 j2 = ((1 : Int32), cK) := (if_neg (bn_f h_4)).trans (rfl)
    exact e_wi S hr hlocks hP hS (congrArg (fun z => z.1) hF.symm) (congrArg (fun z => mW q xa ad sS sC fB gT z.2) hF.symm) d_M_jump_8
def f_M_branch (cK : Nat → Cp) (tk : Bool) (iv : Int32) : Int32 × (Nat → Cp) :=
  ((0 : Int32), (f_K_moveTo cK 8 (((k_a (cK 8)) + (4 : Int32)) + (if tk = true then ((4 : Int32) * iv) else (0 : Int32)))))
set_option maxHeartbeats 4000000 in
set_option maxRecDepth 100000 in
theorem c_M_branch (l : Launch) (D : va_G) (q : Nat → ClassId) (xa ad : Nat → Nat) (sS : Int32) (sC : Int32) (fB : Nat → Int32) (gT : Nat → Bool) (cK : Nat → Cp) (A : Nat → Prop) (hD : va_D A (mW q xa ad sS sC fB gT cK)) (tk : Bool) (iv : Int32) : WMi l y_M_branch b_M_branch 4 (some .int) ({ frames := 1, cells := 0, slots := 0, locals := 22 }) [.ref (xa 0), .int (b2i tk), .int iv] D (tyM q) (mW q xa ad sS sC fB gT cK) (mW q xa ad sS sC fB gT ((f_M_branch cK tk iv).2)) A (((f_M_branch cK tk iv).1)) := by
  refine ofI (by decide) (Nat.le_of_ble_eq_true rfl) ?_
  intro p e s m below meth c ls S hr hlocks hK hN hP hl
  have hx := S.1
  have hb := S.2.1
  have hS : va_S A s.heap s.heap [] := va_S.rf
  have hl : lv_has ls 4 [(0, .ref (xa 0)), (1, .int (b2i tk)), (2, .int iv)] := hl
  refine lv_iload_n hx hb d_M_branch_0 rfl (lv_at hl 1 rfl) ?_
  refine jn 11 ls [] (if tk = true then ((4 : Int32) * iv) else (0 : Int32)) ?_ (fun k_11 => ?_)
  · -- from 11 on
    refine lv_istore_n (lv' := [(3, .int _), (0, .ref _), (1, .int _), (2, .int _)]) hx hb d_M_branch_11 rfl hl (by decide) rfl (fun ls hl => ?_)
    refine lv_aload_n hx hb d_M_branch_12 rfl (lv_at hl 1 rfl) ?_
    refine m_get S hK hP 1 (by decide) fl_M_16 rfl d_M_branch_13 ?_
    refine lv_aload_n hx hb d_M_branch_16 rfl (lv_at hl 1 rfl) ?_
    refine m_get S hK hP 1 (by decide) fl_M_16 rfl d_M_branch_17 ?_
    refine k_getN (v := .int (k_a (cK 8))) S hK hP (by decide) 5 (by decide) hN fn_M_87 rfl d_M_branch_20 ?_
    refine lv_iconst (v := (4 : Int32)) hx hb d_M_branch_23 (by decide) ?_
    refine lv_iadd hx hb d_M_branch_24 ?_
    refine lv_iload_n hx hb d_M_branch_25 rfl (lv_at hl 0 rfl) ?_
    refine lv_iadd hx hb d_M_branch_26 ?_
    refine c_vN [] S (c_K_moveTo l _ _ _ _ _ _ _ _ _ A (mW_D hD) 8 (by decide) (((k_a (cK 8)) + (4 : Int32)) + (if tk = true then ((4 : Int32) * iv) else (0 : Int32)))) mf_K_moveTo mn_M_112 hK hN hP hS (5 + 8) 0 (mW_get (by decide)) rfl ⟨rfl, rfl, Nat.le_of_ble_eq_true rfl, Nat.le_of_ble_eq_true rfl⟩ rfl hl.1 rfl (Nat.le_of_ble_eq_true rfl) d_M_branch_27 ⟨Nat.zero_le _, Nat.zero_le _⟩ (fun H locs hP hS => ?_)
    refine lv_iconst (v := (0 : Int32)) hx hb d_M_branch_30 (by decide) ?_
    have hF : f_M_branch cK tk iv = ((0 : Int32), (f_K_moveTo cK 8 (((k_a (cK 8)) + (4 : Int32)) + (if tk = true then ((4 : Int32) * iv) else (0 : Int32))))) := rfl
    exact e_wi S hr hlocks hP hS (congrArg (fun z => z.1) hF.symm) (congrArg (fun z => mW q xa ad sS sC fB gT z.2) hF.symm) d_M_branch_31
  · -- to 11
    refine zb_eq (tgt := 10) hx hb d_M_branch_1 rfl (fun h_1 => ?_) (fun h_1 => ?_)
    · -- 1: taken
      refine lv_iconst (v := (0 : Int32)) hx hb d_M_branch_10 (by decide) ?_
      exact k_11 _ ((if_neg (bn_f h_1)).trans (rfl) : (if tk = true then ((4 : Int32) * iv) else (0 : Int32)) = (0 : Int32)).symm
    · -- 1: not taken
      refine lv_iconst (v := (4 : Int32)) hx hb d_M_branch_4 (by decide) ?_
      refine lv_iload_n hx hb d_M_branch_5 rfl (lv_at hl 2 rfl) ?_
      refine lv_imul hx hb d_M_branch_6 ?_
      refine lv_goto (tgt := 11) hx hb d_M_branch_7 rfl ?_
      exact k_11 _ ((if_pos h_1).trans (rfl) : (if tk = true then ((4 : Int32) * iv) else (0 : Int32)) = (4 : Int32) * iv).symm
def f_M_advance (cK : Nat → Cp) (xc : Int32) : Int32 × (Nat → Cp) :=
  if xc = (0 : Int32) then (xc, (f_K_moveTo cK 8 ((k_a (cK 8)) + (4 : Int32))))
  else (xc, cK)
set_option maxHeartbeats 4000000 in
set_option maxRecDepth 100000 in
theorem c_M_advance (l : Launch) (D : va_G) (q : Nat → ClassId) (xa ad : Nat → Nat) (sS : Int32) (sC : Int32) (fB : Nat → Int32) (gT : Nat → Bool) (cK : Nat → Cp) (A : Nat → Prop) (hD : va_D A (mW q xa ad sS sC fB gT cK)) (xc : Int32) : WMi l y_M_advance b_M_advance 2 (some .int) ({ frames := 1, cells := 0, slots := 0, locals := 22 }) [.ref (xa 0), .int xc] D (tyM q) (mW q xa ad sS sC fB gT cK) (mW q xa ad sS sC fB gT ((f_M_advance cK xc).2)) A (((f_M_advance cK xc).1)) := by
  refine ofI (by decide) (Nat.le_of_ble_eq_true rfl) ?_
  intro p e s m below meth c ls S hr hlocks hK hN hP hl
  have hx := S.1
  have hb := S.2.1
  have hS : va_S A s.heap s.heap [] := va_S.rf
  have hl : lv_has ls 2 [(0, .ref (xa 0)), (1, .int xc)] := hl
  refine lv_iload_n hx hb d_M_advance_0 rfl (lv_at hl 1 rfl) ?_
  refine lv_if_ne (tgt := 20) hx hb d_M_advance_1 rfl (fun h_1 => ?_) (fun h_1 => ?_)
  · -- 1: taken
    refine lv_iload_n hx hb d_M_advance_20 rfl (lv_at hl 1 rfl) ?_
    have hF : f_M_advance cK xc = (xc, cK) := (if_neg h_1).trans (rfl)
    exact e_wi S hr hlocks hP hS (congrArg (fun z => z.1) hF.symm) (congrArg (fun z => mW q xa ad sS sC fB gT z.2) hF.symm) d_M_advance_21
  · -- 1: not taken
    refine lv_aload_n hx hb d_M_advance_4 rfl (lv_at hl 0 rfl) ?_
    refine m_get S hK hP 1 (by decide) fl_M_16 rfl d_M_advance_5 ?_
    refine lv_aload_n hx hb d_M_advance_8 rfl (lv_at hl 0 rfl) ?_
    refine m_get S hK hP 1 (by decide) fl_M_16 rfl d_M_advance_9 ?_
    refine k_getN (v := .int (k_a (cK 8))) S hK hP (by decide) 5 (by decide) hN fn_M_87 rfl d_M_advance_12 ?_
    refine lv_iconst (v := (4 : Int32)) hx hb d_M_advance_15 (by decide) ?_
    refine lv_iadd hx hb d_M_advance_16 ?_
    refine c_vN [] S (c_K_moveTo l _ _ _ _ _ _ _ _ _ A (mW_D hD) 8 (by decide) ((k_a (cK 8)) + (4 : Int32))) mf_K_moveTo mn_M_112 hK hN hP hS (5 + 8) 0 (mW_get (by decide)) rfl ⟨rfl, rfl, Nat.le_of_ble_eq_true rfl, Nat.le_of_ble_eq_true rfl⟩ rfl hl.1 rfl (Nat.le_of_ble_eq_true rfl) d_M_advance_17 ⟨Nat.zero_le _, Nat.zero_le _⟩ (fun H locs hP hS => ?_)
    refine lv_iload_n hx hb d_M_advance_20 rfl (lv_at hl 1 rfl) ?_
    have hF : f_M_advance cK xc = (xc, (f_K_moveTo cK 8 ((k_a (cK 8)) + (4 : Int32)))) := (if_pos h_1).trans (rfl)
    exact e_wi S hr hlocks hP hS (congrArg (fun z => z.1) hF.symm) (congrArg (fun z => mW q xa ad sS sC fB gT z.2) hF.symm) d_M_advance_21
def f_M_takeException (sS : Int32) (cK : Nat → Cp) (xc : Int32) : Int32 × Int32 × (Nat → Cp) :=
  if (k_v ((f_K_become cK 10 8) 9)) = true then (sS, xc, (f_K_become (f_K_become cK 10 8) 8 9))
  else ((2 : Int32), xc, (f_K_become cK 10 8))
set_option maxHeartbeats 4000000 in
set_option maxRecDepth 100000 in
theorem c_M_takeException (l : Launch) (D : va_G) (q : Nat → ClassId) (xa ad : Nat → Nat) (sS : Int32) (sC : Int32) (fB : Nat → Int32) (gT : Nat → Bool) (cK : Nat → Cp) (A : Nat → Prop) (hD : va_D A (mW q xa ad sS sC fB gT cK)) (xc : Int32) : WMv l y_M_takeException b_M_takeException 2 none ({ frames := 1, cells := 0, slots := 0, locals := 21 }) [.ref (xa 0), .int xc] D (tyM q) (mW q xa ad sS sC fB gT cK) (mW q xa ad ((f_M_takeException sS cK xc).1) ((f_M_takeException sS cK xc).2.1) fB gT ((f_M_takeException sS cK xc).2.2)) A := by
  refine ofV (by decide) (Nat.le_of_ble_eq_true rfl) ?_
  intro p e s m below meth c ls S hr hlocks hK hN hP hl
  have hx := S.1
  have hb := S.2.1
  have hS : va_S A s.heap s.heap [] := va_S.rf
  have hl : lv_has ls 2 [(0, .ref (xa 0)), (1, .int xc)] := hl
  refine lv_aload_n hx hb d_M_takeException_0 rfl (lv_at hl 0 rfl) ?_
  refine lv_iload_n hx hb d_M_takeException_1 rfl (lv_at hl 1 rfl) ?_
  refine m_putC S hK hP (mW_D hD) hS fl_M_44 d_M_takeException_2 (fun H locs hP hS => ?_)
  refine lv_aload_n hx hb d_M_takeException_5 rfl (lv_at hl 0 rfl) ?_
  refine m_get S hK hP 3 (by decide) fl_M_23 rfl d_M_takeException_6 ?_
  refine lv_aload_n hx hb d_M_takeException_9 rfl (lv_at hl 0 rfl) ?_
  refine m_get S hK hP 1 (by decide) fl_M_16 rfl d_M_takeException_10 ?_
  refine c_vN [] S (c_K_become l _ _ _ _ _ _ _ _ _ A (mW_D hD) 10 (by decide) 8 (by decide)) mf_K_become mn_M_79 hK hN hP hS (5 + 10) 0 (mW_get (by decide)) rfl ⟨rfl, rfl, Nat.le_of_ble_eq_true rfl, Nat.le_of_ble_eq_true rfl⟩ rfl hl.1 rfl (Nat.le_of_ble_eq_true rfl) d_M_takeException_13 ⟨Nat.zero_le _, Nat.zero_le _⟩ (fun H locs hP hS => ?_)
  refine lv_aload_n hx hb d_M_takeException_16 rfl (lv_at hl 0 rfl) ?_
  refine m_get S hK hP 2 (by decide) fl_M_20 rfl d_M_takeException_17 ?_
  refine k_getN (v := .int (b2i (k_v ((f_K_become cK 10 8) 9)))) S hK hP (by decide) 0 (by decide) hN fn_M_83 rfl d_M_takeException_20 ?_
  refine zb_eq (tgt := 40) hx hb d_M_takeException_23 rfl (fun h_23 => ?_) (fun h_23 => ?_)
  · -- 23: taken
    refine lv_aload_n hx hb d_M_takeException_40 rfl (lv_at hl 0 rfl) ?_
    refine lv_iconst (v := (2 : Int32)) hx hb d_M_takeException_41 (by decide) ?_
    refine m_putS S hK hP (mW_D hD) hS fl_M_40 d_M_takeException_42 (fun H locs hP hS => ?_)
    have hF : f_M_takeException sS cK xc = ((2 : Int32), xc, (f_K_become cK 10 8)) := (if_neg (bn_f h_23)).trans (rfl)
    exact e_wv S hr hlocks hP hS (congrArg (fun z => mW q xa ad z.1 z.2.1 fB gT z.2.2) hF.symm) d_M_takeException_45
  · -- 23: not taken
    refine lv_aload_n hx hb d_M_takeException_26 rfl (lv_at hl 0 rfl) ?_
    refine m_get S hK hP 1 (by decide) fl_M_16 rfl d_M_takeException_27 ?_
    refine lv_aload_n hx hb d_M_takeException_30 rfl (lv_at hl 0 rfl) ?_
    refine m_get S hK hP 2 (by decide) fl_M_20 rfl d_M_takeException_31 ?_
    refine c_vN [] S (c_K_become l _ _ _ _ _ _ _ _ _ A (mW_D hD) 8 (by decide) 9 (by decide)) mf_K_become mn_M_79 hK hN hP hS (5 + 8) 0 (mW_get (by decide)) rfl ⟨rfl, rfl, Nat.le_of_ble_eq_true rfl, Nat.le_of_ble_eq_true rfl⟩ rfl hl.1 rfl (Nat.le_of_ble_eq_true rfl) d_M_takeException_34 ⟨Nat.zero_le _, Nat.zero_le _⟩ (fun H locs hP hS => ?_)
    refine lv_goto (tgt := 45) hx hb d_M_takeException_37 rfl ?_
    have hF : f_M_takeException sS cK xc = (sS, xc, (f_K_become (f_K_become cK 10 8) 8 9)) := (if_pos h_23).trans (rfl)
    exact e_wv S hr hlocks hP hS (congrArg (fun z => mW q xa ad z.1 z.2.1 fB gT z.2.2) hF.symm) d_M_takeException_45
def f_M_tagged (gT : Nat → Bool) (pl : Int32) : Bool :=
  if pl < (0 : Int32) then false else (if (64 : Int32) ≤ pl then false else (if (gT pl.toNatClampNeg) = true then true else false))
set_option maxHeartbeats 4000000 in
set_option maxRecDepth 100000 in
theorem c_M_tagged (l : Launch) (D : va_G) (q : Nat → ClassId) (xa ad : Nat → Nat) (sS : Int32) (sC : Int32) (fB : Nat → Int32) (gT : Nat → Bool) (cK : Nat → Cp) (pl : Int32) : PMi l y_M_tagged b_M_tagged 2 (some .boolean) ({ frames := 0, cells := 0, slots := 0, locals := 0 }) [.ref (xa 0), .int pl] D (tyM q) (mW q xa ad sS sC fB gT cK) (b2i (f_M_tagged gT pl)) := by
  refine ofP (by decide) (Nat.le_of_ble_eq_true rfl) ?_
  intro p e s m below meth c ls S hr hlocks hK hN hP hl
  have hx := S.1
  have hb := S.2.1
  have hl : lv_has ls 2 [(0, .ref (xa 0)), (1, .int pl)] := hl
  refine lv_iload_n hx hb d_M_tagged_0 rfl (lv_at hl 1 rfl) ?_
  refine jn 27 ls [] (b2i (if pl < (0 : Int32) then false else (if (64 : Int32) ≤ pl then false else (if (gT pl.toNatClampNeg) = true then true else false)))) ?_ (fun k_27 => ?_)
  · -- from 27 on
    exact e_pz (z := if pl < (0 : Int32) then false else (if (64 : Int32) ≤ pl then false else (if (gT pl.toNatClampNeg) = true then true else false))) S hr hlocks (congrArg b2i (rfl : f_M_tagged gT pl = if pl < (0 : Int32) then false else (if (64 : Int32) ≤ pl then false else (if (gT pl.toNatClampNeg) = true then true else false))).symm) d_M_tagged_27
  · -- to 27
    refine lv_if_lt (tgt := 26) hx hb d_M_tagged_1 rfl (fun h_1 => ?_) (fun h_1 => ?_)
    · -- 1: taken
      refine lv_iconst (v := (0 : Int32)) hx hb d_M_tagged_26 (by decide) ?_
      exact k_27 _ (congrArg b2i ((if_pos h_1).trans (rfl) : (if pl < (0 : Int32) then false else (if (64 : Int32) ≤ pl then false else (if (gT pl.toNatClampNeg) = true then true else false))) = false).symm)
    · -- 1: not taken
      refine lv_iload_n hx hb d_M_tagged_4 rfl (lv_at hl 1 rfl) ?_
      refine lv_bipush (v := (64 : Int32)) hx hb d_M_tagged_5 (by decide) ?_
      refine lv_icmp_ge (tgt := 26) hx hb d_M_tagged_7 rfl (fun h_7 => ?_) (fun h_7 => ?_)
      · -- 7: taken
        refine lv_iconst (v := (0 : Int32)) hx hb d_M_tagged_26 (by decide) ?_
        exact k_27 _ (congrArg b2i ((if_neg h_1).trans ((if_pos h_7).trans (rfl)) : (if pl < (0 : Int32) then false else (if (64 : Int32) ≤ pl then false else (if (gT pl.toNatClampNeg) = true then true else false))) = false).symm)
      · -- 7: not taken
        have h0 : vp_in pl 64 := in_of h_1 h_7 (by decide)
        refine lv_aload_n hx hb d_M_tagged_10 rfl (lv_at hl 0 rfl) ?_
        refine m_get S hK hP 5 (by decide) fl_M_32 rfl d_M_tagged_11 ?_
        refine e_getN S hK hP 1 (by decide) hN fn_M_75 rfl d_M_tagged_14 ?_
        refine lv_iload_n hx hb d_M_tagged_17 rfl (lv_at hl 1 rfl) ?_
        refine t_ald S hK hP (by first | assumption | exact and7_in _) d_M_tagged_18 ?_
        refine zb_eq (tgt := 26) hx hb d_M_tagged_19 rfl (fun h_19 => ?_) (fun h_19 => ?_)
        · -- 19: taken
          refine lv_iconst (v := (0 : Int32)) hx hb d_M_tagged_26 (by decide) ?_
          exact k_27 _ (congrArg b2i ((if_neg h_1).trans ((if_neg h_7).trans ((if_neg (bn_f h_19)).trans (rfl))) : (if pl < (0 : Int32) then false else (if (64 : Int32) ≤ pl then false else (if (gT pl.toNatClampNeg) = true then true else false))) = false).symm)
        · -- 19: not taken
          refine lv_iconst (v := (1 : Int32)) hx hb d_M_tagged_22 (by decide) ?_
          refine lv_goto (tgt := 27) hx hb d_M_tagged_23 rfl ?_
          exact k_27 _ (congrArg b2i ((if_neg h_1).trans ((if_neg h_7).trans ((if_pos h_19).trans (rfl))) : (if pl < (0 : Int32) then false else (if (64 : Int32) ≤ pl then false else (if (gT pl.toNatClampNeg) = true then true else false))) = true).symm)
def f_M_step (sS : Int32) (fB : Nat → Int32) (gT : Nat → Bool) (cK : Nat → Cp) : Int32 × Int32 × (Nat → Int32) × (Nat → Bool) × (Nat → Cp) :=
  if (f_K_refusal cK 8 (4 : Int32) ((k_a (cK 8)).toInt64) (4 : Int32)) = (0 : Int32) then (if (f_E_byteAt fB (k_a (cK 8))) = (0 : Int32) then ((0 : Int32), (1 : Int32), fB, gT, cK)
    else if (f_E_byteAt fB (k_a (cK 8))) = (1 : Int32) then ((f_M_advance (f_K_becomeNumber cK (((f_E_byteAt fB ((k_a (cK 8)) + (1 : Int32))) &&& (7 : Int32)).toNatClampNeg) (((256 : Int32) * (f_E_byteAt fB ((k_a (cK 8)) + (2 : Int32)))) + (f_E_byteAt fB ((k_a (cK 8)) + (3 : Int32))))) (0 : Int32)).1, sS, fB, gT, (f_M_advance (f_K_becomeNumber cK (((f_E_byteAt fB ((k_a (cK 8)) + (1 : Int32))) &&& (7 : Int32)).toNatClampNeg) (((256 : Int32) * (f_E_byteAt fB ((k_a (cK 8)) + (2 : Int32)))) + (f_E_byteAt fB ((k_a (cK 8)) + (3 : Int32))))) (0 : Int32)).2)
    else if (f_E_byteAt fB (k_a (cK 8))) = (4 : Int32) then ((f_M_branch cK (if (k_a (cK (((f_E_byteAt fB ((k_a (cK 8)) + (1 : Int32))) &&& (7 : Int32)).toNatClampNeg))) = (k_a (cK (((f_E_byteAt fB ((k_a (cK 8)) + (2 : Int32))) &&& (7 : Int32)).toNatClampNeg))) then true else false) ((f_E_byteAt fB ((k_a (cK 8)) + (3 : Int32))).toInt8.toInt32)).1, sS, fB, gT, (f_M_branch cK (if (k_a (cK (((f_E_byteAt fB ((k_a (cK 8)) + (1 : Int32))) &&& (7 : Int32)).toNatClampNeg))) = (k_a (cK (((f_E_byteAt fB ((k_a (cK 8)) + (2 : Int32))) &&& (7 : Int32)).toNatClampNeg))) then true else false) ((f_E_byteAt fB ((k_a (cK 8)) + (3 : Int32))).toInt8.toInt32)).2)
    else if (f_E_byteAt fB (k_a (cK 8))) = (5 : Int32) then ((f_M_branch cK (if (k_a (cK (((f_E_byteAt fB ((k_a (cK 8)) + (2 : Int32))) &&& (7 : Int32)).toNatClampNeg))) ≤ (k_a (cK (((f_E_byteAt fB ((k_a (cK 8)) + (1 : Int32))) &&& (7 : Int32)).toNatClampNeg))) then false else true) ((f_E_byteAt fB ((k_a (cK 8)) + (3 : Int32))).toInt8.toInt32)).1, sS, fB, gT, (f_M_branch cK (if (k_a (cK (((f_E_byteAt fB ((k_a (cK 8)) + (2 : Int32))) &&& (7 : Int32)).toNatClampNeg))) ≤ (k_a (cK (((f_E_byteAt fB ((k_a (cK 8)) + (1 : Int32))) &&& (7 : Int32)).toNatClampNeg))) then false else true) ((f_E_byteAt fB ((k_a (cK 8)) + (3 : Int32))).toInt8.toInt32)).2)
    else if (f_E_byteAt fB (k_a (cK 8))) = (6 : Int32) then ((f_M_branch cK (if (k_a (cK (((f_E_byteAt fB ((k_a (cK 8)) + (1 : Int32))) &&& (7 : Int32)).toNatClampNeg))) = (k_a (cK (((f_E_byteAt fB ((k_a (cK 8)) + (2 : Int32))) &&& (7 : Int32)).toNatClampNeg))) then false else true) ((f_E_byteAt fB ((k_a (cK 8)) + (3 : Int32))).toInt8.toInt32)).1, sS, fB, gT, (f_M_branch cK (if (k_a (cK (((f_E_byteAt fB ((k_a (cK 8)) + (1 : Int32))) &&& (7 : Int32)).toNatClampNeg))) = (k_a (cK (((f_E_byteAt fB ((k_a (cK 8)) + (2 : Int32))) &&& (7 : Int32)).toNatClampNeg))) then false else true) ((f_E_byteAt fB ((k_a (cK 8)) + (3 : Int32))).toInt8.toInt32)).2)
    else if (f_E_byteAt fB (k_a (cK 8))) = (16 : Int32) then ((f_M_jump cK (((f_E_byteAt fB ((k_a (cK 8)) + (1 : Int32))) &&& (7 : Int32)).toNatClampNeg) (((f_E_byteAt fB ((k_a (cK 8)) + (2 : Int32))) &&& (7 : Int32)).toNatClampNeg)).1, sS, fB, gT, (f_M_jump cK (((f_E_byteAt fB ((k_a (cK 8)) + (1 : Int32))) &&& (7 : Int32)).toNatClampNeg) (((f_E_byteAt fB ((k_a (cK 8)) + (2 : Int32))) &&& (7 : Int32)).toNatClampNeg)).2)
    else ((f_M_advance ((f_M_compute fB gT cK (f_E_byteAt fB (k_a (cK 8))) (((f_E_byteAt fB ((k_a (cK 8)) + (1 : Int32))) &&& (7 : Int32)).toNatClampNeg) (((f_E_byteAt fB ((k_a (cK 8)) + (2 : Int32))) &&& (7 : Int32)).toNatClampNeg) (((f_E_byteAt fB ((k_a (cK 8)) + (3 : Int32))) &&& (7 : Int32)).toNatClampNeg) ((f_E_byteAt fB ((k_a (cK 8)) + (3 : Int32))).toInt8.toInt32)).2.2.2) ((f_M_compute fB gT cK (f_E_byteAt fB (k_a (cK 8))) (((f_E_byteAt fB ((k_a (cK 8)) + (1 : Int32))) &&& (7 : Int32)).toNatClampNeg) (((f_E_byteAt fB ((k_a (cK 8)) + (2 : Int32))) &&& (7 : Int32)).toNatClampNeg) (((f_E_byteAt fB ((k_a (cK 8)) + (3 : Int32))) &&& (7 : Int32)).toNatClampNeg) ((f_E_byteAt fB ((k_a (cK 8)) + (3 : Int32))).toInt8.toInt32)).1)).1, sS, (f_M_compute fB gT cK (f_E_byteAt fB (k_a (cK 8))) (((f_E_byteAt fB ((k_a (cK 8)) + (1 : Int32))) &&& (7 : Int32)).toNatClampNeg) (((f_E_byteAt fB ((k_a (cK 8)) + (2 : Int32))) &&& (7 : Int32)).toNatClampNeg) (((f_E_byteAt fB ((k_a (cK 8)) + (3 : Int32))) &&& (7 : Int32)).toNatClampNeg) ((f_E_byteAt fB ((k_a (cK 8)) + (3 : Int32))).toInt8.toInt32)).2.1, (f_M_compute fB gT cK (f_E_byteAt fB (k_a (cK 8))) (((f_E_byteAt fB ((k_a (cK 8)) + (1 : Int32))) &&& (7 : Int32)).toNatClampNeg) (((f_E_byteAt fB ((k_a (cK 8)) + (2 : Int32))) &&& (7 : Int32)).toNatClampNeg) (((f_E_byteAt fB ((k_a (cK 8)) + (3 : Int32))) &&& (7 : Int32)).toNatClampNeg) ((f_E_byteAt fB ((k_a (cK 8)) + (3 : Int32))).toInt8.toInt32)).2.2.1, (f_M_advance ((f_M_compute fB gT cK (f_E_byteAt fB (k_a (cK 8))) (((f_E_byteAt fB ((k_a (cK 8)) + (1 : Int32))) &&& (7 : Int32)).toNatClampNeg) (((f_E_byteAt fB ((k_a (cK 8)) + (2 : Int32))) &&& (7 : Int32)).toNatClampNeg) (((f_E_byteAt fB ((k_a (cK 8)) + (3 : Int32))) &&& (7 : Int32)).toNatClampNeg) ((f_E_byteAt fB ((k_a (cK 8)) + (3 : Int32))).toInt8.toInt32)).2.2.2) ((f_M_compute fB gT cK (f_E_byteAt fB (k_a (cK 8))) (((f_E_byteAt fB ((k_a (cK 8)) + (1 : Int32))) &&& (7 : Int32)).toNatClampNeg) (((f_E_byteAt fB ((k_a (cK 8)) + (2 : Int32))) &&& (7 : Int32)).toNatClampNeg) (((f_E_byteAt fB ((k_a (cK 8)) + (3 : Int32))) &&& (7 : Int32)).toNatClampNeg) ((f_E_byteAt fB ((k_a (cK 8)) + (3 : Int32))).toInt8.toInt32)).1)).2))
  else ((f_K_refusal cK 8 (4 : Int32) ((k_a (cK 8)).toInt64) (4 : Int32)), sS, fB, gT, cK)
set_option maxHeartbeats 4000000 in
set_option maxRecDepth 100000 in
theorem c_M_step (l : Launch) (D : va_G) (q : Nat → ClassId) (xa ad : Nat → Nat) (sS : Int32) (sC : Int32) (fB : Nat → Int32) (gT : Nat → Bool) (cK : Nat → Cp) (A : Nat → Prop) (hD : va_D A (mW q xa ad sS sC fB gT cK)) (hg : ∀ i, i < 11 → Rg (cK i)) : WMi l y_M_step b_M_step 8 (some .int) ({ frames := 5, cells := 0, slots := 0, locals := 116 }) [.ref (xa 0)] D (tyM q) (mW q xa ad sS sC fB gT cK) (mW q xa ad ((f_M_step sS fB gT cK).2.1) sC ((f_M_step sS fB gT cK).2.2.1) ((f_M_step sS fB gT cK).2.2.2.1) ((f_M_step sS fB gT cK).2.2.2.2)) A (((f_M_step sS fB gT cK).1)) := by
  refine ofI (by decide) (Nat.le_of_ble_eq_true rfl) ?_
  intro p e s m below meth c ls S hr hlocks hK hN hP hl
  have hx := S.1
  have hb := S.2.1
  have hS : va_S A s.heap s.heap [] := va_S.rf
  have hl : lv_has ls 8 [(0, .ref (xa 0))] := hl
  refine lv_aload_n hx hb d_M_step_0 rfl (lv_at hl 0 rfl) ?_
  refine m_get S hK hP 1 (by decide) fl_M_16 rfl d_M_step_1 ?_
  refine k_getN (v := .int (k_a (cK 8))) S hK hP (by decide) 5 (by decide) hN fn_M_87 rfl d_M_step_4 ?_
  refine lv_istore_n (lv' := [(1, .int _), (0, .ref _)]) hx hb d_M_step_7 rfl hl (by decide) rfl (fun ls hl => ?_)
  refine lv_aload_n hx hb d_M_step_8 rfl (lv_at hl 1 rfl) ?_
  refine m_get S hK hP 1 (by decide) fl_M_16 rfl d_M_step_9 ?_
  refine lv_iconst (v := (4 : Int32)) hx hb d_M_step_12 (by decide) ?_
  refine lv_iload_n hx hb d_M_step_13 rfl (lv_at hl 0 rfl) ?_
  refine lv_i2l (v := (k_a (cK 8)).toInt64) hx hb d_M_step_14 rfl ?_
  refine lv_iconst (v := (4 : Int32)) hx hb d_M_step_15 (by decide) ?_
  refine c_pN [] S (c_K_refusal l _ _ _ _ _ _ _ _ _ 8 (by decide) (4 : Int32) ((k_a (cK 8)).toInt64) (4 : Int32)) mf_K_refusal mn_M_90 hK hN hP (5 + 8) 0 (mW_get (by decide)) rfl ⟨rfl, rfl, Nat.le_of_ble_eq_true rfl, Nat.le_of_ble_eq_true rfl⟩ rfl hl.1 rfl (Nat.le_of_ble_eq_true rfl) d_M_step_16 ⟨Nat.zero_le _, Nat.zero_le _⟩ ?_
  refine lv_istore_n (lv' := [(2, .int _), (1, .int _), (0, .ref _)]) hx hb d_M_step_19 rfl hl (by decide) rfl (fun ls hl => ?_)
  refine lv_iload_n hx hb d_M_step_20 rfl (lv_at hl 0 rfl) ?_
  refine lv_if_eq (tgt := 26) hx hb d_M_step_21 rfl (fun h_21 => ?_) (fun h_21 => ?_)
  · -- 21: taken
    have hA : Ar (k_a (cK 8)) 4 := rf_pc h_21 (hg 8 (by decide))
    have h0 := hA.i0 (by decide)
    have h1 := hA.i1 (by decide)
    have h2 := hA.i2 (by decide)
    have h3 := hA.i3 (by decide)
    refine lv_aload_n hx hb d_M_step_26 rfl (lv_at hl 2 rfl) ?_
    refine m_get S hK hP 5 (by decide) fl_M_32 rfl d_M_step_27 ?_
    refine lv_iload_n hx hb d_M_step_30 rfl (lv_at hl 1 rfl) ?_
    refine lv_iconst (v := (2 : Int32)) hx hb d_M_step_31 (by decide) ?_
    refine lv_iadd hx hb d_M_step_32 ?_
    refine c_pN [] S (c_E_byteAt l _ _ _ _ _ _ _ _ _ ((k_a (cK 8)) + (2 : Int32)) (by first | assumption | exact in_k rfl | decide)) mf_E_byteAt mn_M_72 hK hN hP 2 1 rfl rfl ⟨rfl, rfl, Nat.le_of_ble_eq_true rfl, Nat.le_of_ble_eq_true rfl⟩ rfl hl.1 rfl (Nat.le_of_ble_eq_true rfl) d_M_step_33 ⟨Nat.zero_le _, Nat.zero_le _⟩ ?_
    refine lv_istore_n (lv' := [(3, .int _), (2, .int _), (1, .int _), (0, .ref _)]) hx hb d_M_step_36 rfl hl (by decide) rfl (fun ls hl => ?_)
    refine lv_aload_n hx hb d_M_step_37 rfl (lv_at hl 3 rfl) ?_
    refine m_get S hK hP 5 (by decide) fl_M_32 rfl d_M_step_38 ?_
    refine lv_iload_n hx hb d_M_step_41 rfl (lv_at hl 2 rfl) ?_
    refine lv_iconst (v := (3 : Int32)) hx hb d_M_step_42 (by decide) ?_
    refine lv_iadd hx hb d_M_step_43 ?_
    refine c_pN [] S (c_E_byteAt l _ _ _ _ _ _ _ _ _ ((k_a (cK 8)) + (3 : Int32)) (by first | assumption | exact in_k rfl | decide)) mf_E_byteAt mn_M_72 hK hN hP 2 1 rfl rfl ⟨rfl, rfl, Nat.le_of_ble_eq_true rfl, Nat.le_of_ble_eq_true rfl⟩ rfl hl.1 rfl (Nat.le_of_ble_eq_true rfl) d_M_step_44 ⟨Nat.zero_le _, Nat.zero_le _⟩ ?_
    refine lv_istore (lv' := [(4, .int _), (3, .int _), (2, .int _), (1, .int _), (0, .ref _)]) hx hb d_M_step_47 hl (by decide) rfl (fun ls hl => ?_)
    refine lv_aload_n hx hb d_M_step_49 rfl (lv_at hl 4 rfl) ?_
    refine m_get S hK hP 0 (by decide) fl_M_11 rfl d_M_step_50 ?_
    refine lv_aload_n hx hb d_M_step_53 rfl (lv_at hl 4 rfl) ?_
    refine m_get S hK hP 5 (by decide) fl_M_32 rfl d_M_step_54 ?_
    refine lv_iload_n hx hb d_M_step_57 rfl (lv_at hl 3 rfl) ?_
    refine lv_iconst (v := (1 : Int32)) hx hb d_M_step_58 (by decide) ?_
    refine lv_iadd hx hb d_M_step_59 ?_
    refine c_pN [.ref (xa 1)] S (c_E_byteAt l _ _ _ _ _ _ _ _ _ ((k_a (cK 8)) + (1 : Int32)) (by first | assumption | exact in_k rfl | decide)) mf_E_byteAt mn_M_72 hK hN hP 2 1 rfl rfl ⟨rfl, rfl, Nat.le_of_ble_eq_true rfl, Nat.le_of_ble_eq_true rfl⟩ rfl hl.1 rfl (Nat.le_of_ble_eq_true rfl) d_M_step_60 ⟨Nat.zero_le _, Nat.zero_le _⟩ ?_
    refine lv_bipush (v := (7 : Int32)) hx hb d_M_step_63 (by decide) ?_
    refine lv_iand hx hb d_M_step_65 ?_
    refine s_ald S hK hP (by first | assumption | exact and7_in _) d_M_step_66 ?_
    refine lv_astore (lv' := [(5, .ref _), (4, .int _), (3, .int _), (2, .int _), (1, .int _), (0, .ref _)]) hx hb d_M_step_67 hl (by decide) rfl (fun ls hl => ?_)
    refine lv_aload_n hx hb d_M_step_69 rfl (lv_at hl 5 rfl) ?_
    refine m_get S hK hP 0 (by decide) fl_M_11 rfl d_M_step_70 ?_
    refine lv_iload_n hx hb d_M_step_73 rfl (lv_at hl 2 rfl) ?_
    refine lv_bipush (v := (7 : Int32)) hx hb d_M_step_74 (by decide) ?_
    refine lv_iand hx hb d_M_step_76 ?_
    refine s_ald S hK hP (by first | assumption | exact and7_in _) d_M_step_77 ?_
    refine lv_astore (lv' := [(6, .ref _), (5, .ref _), (4, .int _), (3, .int _), (2, .int _), (1, .int _), (0, .ref _)]) hx hb d_M_step_78 hl (by decide) rfl (fun ls hl => ?_)
    refine lv_aload_n hx hb d_M_step_80 rfl (lv_at hl 6 rfl) ?_
    refine m_get S hK hP 5 (by decide) fl_M_32 rfl d_M_step_81 ?_
    refine lv_iload_n hx hb d_M_step_84 rfl (lv_at hl 5 rfl) ?_
    refine c_pN [] S (c_E_byteAt l _ _ _ _ _ _ _ _ _ (k_a (cK 8)) (by first | assumption | exact in_k rfl | decide)) mf_E_byteAt mn_M_72 hK hN hP 2 1 rfl rfl ⟨rfl, rfl, Nat.le_of_ble_eq_true rfl, Nat.le_of_ble_eq_true rfl⟩ rfl hl.1 rfl (Nat.le_of_ble_eq_true rfl) d_M_step_85 ⟨Nat.zero_le _, Nat.zero_le _⟩ ?_
    refine lv_istore (lv' := [(7, .int _), (6, .ref _), (5, .ref _), (4, .int _), (3, .int _), (2, .int _), (1, .int _), (0, .ref _)]) hx hb d_M_step_88 hl (by decide) rfl (fun ls hl => ?_)
    refine lv_iload hx hb d_M_step_90 (lv_at hl 0 rfl) ?_
    by_cases h_92_0 : (f_E_byteAt fB (k_a (cK 8))) = (0 : Int32)
    · -- 92: case 0
      refine t_in (0 : Int32) (off := 84) (tgt := 176) hx hb d_M_step_92 h_92_0 (by decide) (by decide) (by decide) rfl ?_
      refine lv_aload_n hx hb d_M_step_176 rfl (lv_at hl 7 rfl) ?_
      refine lv_iconst (v := (1 : Int32)) hx hb d_M_step_177 (by decide) ?_
      refine m_putS S hK hP (mW_D hD) hS fl_M_40 d_M_step_178 (fun H locs hP hS => ?_)
      refine lv_iconst (v := (0 : Int32)) hx hb d_M_step_181 (by decide) ?_
      have hF : f_M_step sS fB gT cK = ((0 : Int32), (1 : Int32), fB, gT, cK) := (if_pos h_21).trans ((if_pos h_92_0).trans (rfl))
      exact e_wi S hr hlocks hP hS (congrArg (fun z => z.1) hF.symm) (congrArg (fun z => mW q xa ad z.2.1 sC z.2.2.1 z.2.2.2.1 z.2.2.2.2) hF.symm) d_M_step_182
    by_cases h_92_1 : (f_E_byteAt fB (k_a (cK 8))) = (1 : Int32)
    · -- 92: case 1
      refine t_in (1 : Int32) (off := 178) (tgt := 270) hx hb d_M_step_92 h_92_1 (by decide) (by decide) (by decide) rfl ?_
      refine lv_aload hx hb d_M_step_270 (lv_at hl 2 rfl) ?_
      refine lv_sipush (v := (256 : Int32)) hx hb d_M_step_272 (by decide) ?_
      refine lv_iload_n hx hb d_M_step_275 rfl (lv_at hl 4 rfl) ?_
      refine lv_imul hx hb d_M_step_276 ?_
      refine lv_iload hx hb d_M_step_277 (lv_at hl 3 rfl) ?_
      refine lv_iadd hx hb d_M_step_279 ?_
      refine c_vN [] S (c_K_becomeNumber l _ _ _ _ _ _ _ _ _ A (mW_D hD) (((f_E_byteAt fB ((k_a (cK 8)) + (1 : Int32))) &&& (7 : Int32)).toNatClampNeg) (by first | assumption | exact and7_lt _) (((256 : Int32) * (f_E_byteAt fB ((k_a (cK 8)) + (2 : Int32)))) + (f_E_byteAt fB ((k_a (cK 8)) + (3 : Int32))))) mf_K_becomeNumber mn_M_102 hK hN hP hS (5 + (((f_E_byteAt fB ((k_a (cK 8)) + (1 : Int32))) &&& (7 : Int32)).toNatClampNeg)) 0 (mW_get (by first | assumption | exact and7_lt _)) rfl ⟨rfl, rfl, Nat.le_of_ble_eq_true rfl, Nat.le_of_ble_eq_true rfl⟩ rfl hl.1 rfl (Nat.le_of_ble_eq_true rfl) d_M_step_280 ⟨Nat.zero_le _, Nat.zero_le _⟩ (fun H locs hP hS => ?_)
      refine lv_aload_n hx hb d_M_step_283 rfl (lv_at hl 7 rfl) ?_
      refine lv_iconst (v := (0 : Int32)) hx hb d_M_step_284 (by decide) ?_
      refine c_iV [] S (c_M_advance l _ _ _ _ _ _ _ _ _ A (mW_D hD) (0 : Int32)) mf_M_advance ml_M_105 hK hN hP hS 0 2 rfl rfl ⟨rfl, rfl, Nat.le_of_ble_eq_true rfl, Nat.le_of_ble_eq_true rfl⟩ rfl hl.1 rfl (Nat.le_of_ble_eq_true rfl) d_M_step_285 ⟨Nat.zero_le _, Nat.zero_le _⟩ (fun H locs hP hS => ?_)
      have hF : f_M_step sS fB gT cK = ((f_M_advance (f_K_becomeNumber cK (((f_E_byteAt fB ((k_a (cK 8)) + (1 : Int32))) &&& (7 : Int32)).toNatClampNeg) (((256 : Int32) * (f_E_byteAt fB ((k_a (cK 8)) + (2 : Int32)))) + (f_E_byteAt fB ((k_a (cK 8)) + (3 : Int32))))) (0 : Int32)).1, sS, fB, gT, (f_M_advance (f_K_becomeNumber cK (((f_E_byteAt fB ((k_a (cK 8)) + (1 : Int32))) &&& (7 : Int32)).toNatClampNeg) (((256 : Int32) * (f_E_byteAt fB ((k_a (cK 8)) + (2 : Int32)))) + (f_E_byteAt fB ((k_a (cK 8)) + (3 : Int32))))) (0 : Int32)).2) := (if_pos h_21).trans ((if_neg h_92_0).trans ((if_pos h_92_1).trans (rfl)))
      exact e_wi S hr hlocks hP hS (congrArg (fun z => z.1) hF.symm) (congrArg (fun z => mW q xa ad z.2.1 sC z.2.2.1 z.2.2.2.1 z.2.2.2.2) hF.symm) d_M_step_288
    by_cases h_92_4 : (f_E_byteAt fB (k_a (cK 8))) = (4 : Int32)
    · -- 92: case 4
      refine t_in (4 : Int32) (off := 91) (tgt := 183) hx hb d_M_step_92 h_92_4 (by decide) (by decide) (by decide) rfl ?_
      refine lv_aload_n hx hb d_M_step_183 rfl (lv_at hl 7 rfl) ?_
      refine lv_aload hx hb d_M_step_184 (lv_at hl 2 rfl) ?_
      refine k_getN (v := .int (k_a (cK (((f_E_byteAt fB ((k_a (cK 8)) + (1 : Int32))) &&& (7 : Int32)).toNatClampNeg)))) S hK hP (by first | assumption | exact and7_lt _) 5 (by decide) hN fn_M_87 rfl d_M_step_186 ?_
      refine lv_aload hx hb d_M_step_189 (lv_at hl 1 rfl) ?_
      refine k_getN (v := .int (k_a (cK (((f_E_byteAt fB ((k_a (cK 8)) + (2 : Int32))) &&& (7 : Int32)).toNatClampNeg)))) S hK hP (by first | assumption | exact and7_lt _) 5 (by decide) hN fn_M_87 rfl d_M_step_191 ?_
      refine jn 202 ls [.ref (xa 0)] (b2i (if (k_a (cK (((f_E_byteAt fB ((k_a (cK 8)) + (1 : Int32))) &&& (7 : Int32)).toNatClampNeg))) = (k_a (cK (((f_E_byteAt fB ((k_a (cK 8)) + (2 : Int32))) &&& (7 : Int32)).toNatClampNeg))) then true else false)) ?_ (fun k_202 => ?_)
      · -- from 202 on
        refine lv_iload hx hb d_M_step_202 (lv_at hl 3 rfl) ?_
        refine lv_i2b (v := (f_E_byteAt fB ((k_a (cK 8)) + (3 : Int32))).toInt8.toInt32) hx hb d_M_step_204 rfl ?_
        refine c_iV [] S (c_M_branch l _ _ _ _ _ _ _ _ _ A (mW_D hD) (if (k_a (cK (((f_E_byteAt fB ((k_a (cK 8)) + (1 : Int32))) &&& (7 : Int32)).toNatClampNeg))) = (k_a (cK (((f_E_byteAt fB ((k_a (cK 8)) + (2 : Int32))) &&& (7 : Int32)).toNatClampNeg))) then true else false) ((f_E_byteAt fB ((k_a (cK 8)) + (3 : Int32))).toInt8.toInt32)) mf_M_branch ml_M_94 hK hN hP hS 0 2 rfl rfl ⟨rfl, rfl, Nat.le_of_ble_eq_true rfl, Nat.le_of_ble_eq_true rfl⟩ rfl hl.1 rfl (Nat.le_of_ble_eq_true rfl) d_M_step_205 ⟨Nat.zero_le _, Nat.zero_le _⟩ (fun H locs hP hS => ?_)
        have hF : f_M_step sS fB gT cK = ((f_M_branch cK (if (k_a (cK (((f_E_byteAt fB ((k_a (cK 8)) + (1 : Int32))) &&& (7 : Int32)).toNatClampNeg))) = (k_a (cK (((f_E_byteAt fB ((k_a (cK 8)) + (2 : Int32))) &&& (7 : Int32)).toNatClampNeg))) then true else false) ((f_E_byteAt fB ((k_a (cK 8)) + (3 : Int32))).toInt8.toInt32)).1, sS, fB, gT, (f_M_branch cK (if (k_a (cK (((f_E_byteAt fB ((k_a (cK 8)) + (1 : Int32))) &&& (7 : Int32)).toNatClampNeg))) = (k_a (cK (((f_E_byteAt fB ((k_a (cK 8)) + (2 : Int32))) &&& (7 : Int32)).toNatClampNeg))) then true else false) ((f_E_byteAt fB ((k_a (cK 8)) + (3 : Int32))).toInt8.toInt32)).2) := (if_pos h_21).trans ((if_neg h_92_0).trans ((if_neg h_92_1).trans ((if_pos h_92_4).trans (rfl))))
        exact e_wi S hr hlocks hP hS (congrArg (fun z => z.1) hF.symm) (congrArg (fun z => mW q xa ad z.2.1 sC z.2.2.1 z.2.2.2.1 z.2.2.2.2) hF.symm) d_M_step_208
      · -- to 202
        refine lv_icmp_ne (tgt := 201) hx hb d_M_step_194 rfl (fun h_194 => ?_) (fun h_194 => ?_)
        · -- 194: taken
          refine lv_iconst (v := (0 : Int32)) hx hb d_M_step_201 (by decide) ?_
          exact k_202 _ (congrArg b2i ((if_neg h_194).trans (rfl) : (if (k_a (cK (((f_E_byteAt fB ((k_a (cK 8)) + (1 : Int32))) &&& (7 : Int32)).toNatClampNeg))) = (k_a (cK (((f_E_byteAt fB ((k_a (cK 8)) + (2 : Int32))) &&& (7 : Int32)).toNatClampNeg))) then true else false) = false).symm)
        · -- 194: not taken
          refine lv_iconst (v := (1 : Int32)) hx hb d_M_step_197 (by decide) ?_
          refine lv_goto (tgt := 202) hx hb d_M_step_198 rfl ?_
          exact k_202 _ (congrArg b2i ((if_pos h_194).trans (rfl) : (if (k_a (cK (((f_E_byteAt fB ((k_a (cK 8)) + (1 : Int32))) &&& (7 : Int32)).toNatClampNeg))) = (k_a (cK (((f_E_byteAt fB ((k_a (cK 8)) + (2 : Int32))) &&& (7 : Int32)).toNatClampNeg))) then true else false) = true).symm)
    by_cases h_92_5 : (f_E_byteAt fB (k_a (cK 8))) = (5 : Int32)
    · -- 92: case 5
      refine t_in (5 : Int32) (off := 117) (tgt := 209) hx hb d_M_step_92 h_92_5 (by decide) (by decide) (by decide) rfl ?_
      refine lv_aload_n hx hb d_M_step_209 rfl (lv_at hl 7 rfl) ?_
      refine lv_aload hx hb d_M_step_210 (lv_at hl 2 rfl) ?_
      refine k_getN (v := .int (k_a (cK (((f_E_byteAt fB ((k_a (cK 8)) + (1 : Int32))) &&& (7 : Int32)).toNatClampNeg)))) S hK hP (by first | assumption | exact and7_lt _) 5 (by decide) hN fn_M_87 rfl d_M_step_212 ?_
      refine lv_aload hx hb d_M_step_215 (lv_at hl 1 rfl) ?_
      refine k_getN (v := .int (k_a (cK (((f_E_byteAt fB ((k_a (cK 8)) + (2 : Int32))) &&& (7 : Int32)).toNatClampNeg)))) S hK hP (by first | assumption | exact and7_lt _) 5 (by decide) hN fn_M_87 rfl d_M_step_217 ?_
      refine jn 228 ls [.ref (xa 0)] (b2i (if (k_a (cK (((f_E_byteAt fB ((k_a (cK 8)) + (2 : Int32))) &&& (7 : Int32)).toNatClampNeg))) ≤ (k_a (cK (((f_E_byteAt fB ((k_a (cK 8)) + (1 : Int32))) &&& (7 : Int32)).toNatClampNeg))) then false else true)) ?_ (fun k_228 => ?_)
      · -- from 228 on
        refine lv_iload hx hb d_M_step_228 (lv_at hl 3 rfl) ?_
        refine lv_i2b (v := (f_E_byteAt fB ((k_a (cK 8)) + (3 : Int32))).toInt8.toInt32) hx hb d_M_step_230 rfl ?_
        refine c_iV [] S (c_M_branch l _ _ _ _ _ _ _ _ _ A (mW_D hD) (if (k_a (cK (((f_E_byteAt fB ((k_a (cK 8)) + (2 : Int32))) &&& (7 : Int32)).toNatClampNeg))) ≤ (k_a (cK (((f_E_byteAt fB ((k_a (cK 8)) + (1 : Int32))) &&& (7 : Int32)).toNatClampNeg))) then false else true) ((f_E_byteAt fB ((k_a (cK 8)) + (3 : Int32))).toInt8.toInt32)) mf_M_branch ml_M_94 hK hN hP hS 0 2 rfl rfl ⟨rfl, rfl, Nat.le_of_ble_eq_true rfl, Nat.le_of_ble_eq_true rfl⟩ rfl hl.1 rfl (Nat.le_of_ble_eq_true rfl) d_M_step_231 ⟨Nat.zero_le _, Nat.zero_le _⟩ (fun H locs hP hS => ?_)
        have hF : f_M_step sS fB gT cK = ((f_M_branch cK (if (k_a (cK (((f_E_byteAt fB ((k_a (cK 8)) + (2 : Int32))) &&& (7 : Int32)).toNatClampNeg))) ≤ (k_a (cK (((f_E_byteAt fB ((k_a (cK 8)) + (1 : Int32))) &&& (7 : Int32)).toNatClampNeg))) then false else true) ((f_E_byteAt fB ((k_a (cK 8)) + (3 : Int32))).toInt8.toInt32)).1, sS, fB, gT, (f_M_branch cK (if (k_a (cK (((f_E_byteAt fB ((k_a (cK 8)) + (2 : Int32))) &&& (7 : Int32)).toNatClampNeg))) ≤ (k_a (cK (((f_E_byteAt fB ((k_a (cK 8)) + (1 : Int32))) &&& (7 : Int32)).toNatClampNeg))) then false else true) ((f_E_byteAt fB ((k_a (cK 8)) + (3 : Int32))).toInt8.toInt32)).2) := (if_pos h_21).trans ((if_neg h_92_0).trans ((if_neg h_92_1).trans ((if_neg h_92_4).trans ((if_pos h_92_5).trans (rfl)))))
        exact e_wi S hr hlocks hP hS (congrArg (fun z => z.1) hF.symm) (congrArg (fun z => mW q xa ad z.2.1 sC z.2.2.1 z.2.2.2.1 z.2.2.2.2) hF.symm) d_M_step_234
      · -- to 228
        refine lv_icmp_ge (tgt := 227) hx hb d_M_step_220 rfl (fun h_220 => ?_) (fun h_220 => ?_)
        · -- 220: taken
          refine lv_iconst (v := (0 : Int32)) hx hb d_M_step_227 (by decide) ?_
          exact k_228 _ (congrArg b2i ((if_pos h_220).trans (rfl) : (if (k_a (cK (((f_E_byteAt fB ((k_a (cK 8)) + (2 : Int32))) &&& (7 : Int32)).toNatClampNeg))) ≤ (k_a (cK (((f_E_byteAt fB ((k_a (cK 8)) + (1 : Int32))) &&& (7 : Int32)).toNatClampNeg))) then false else true) = false).symm)
        · -- 220: not taken
          refine lv_iconst (v := (1 : Int32)) hx hb d_M_step_223 (by decide) ?_
          refine lv_goto (tgt := 228) hx hb d_M_step_224 rfl ?_
          exact k_228 _ (congrArg b2i ((if_neg h_220).trans (rfl) : (if (k_a (cK (((f_E_byteAt fB ((k_a (cK 8)) + (2 : Int32))) &&& (7 : Int32)).toNatClampNeg))) ≤ (k_a (cK (((f_E_byteAt fB ((k_a (cK 8)) + (1 : Int32))) &&& (7 : Int32)).toNatClampNeg))) then false else true) = true).symm)
    by_cases h_92_6 : (f_E_byteAt fB (k_a (cK 8))) = (6 : Int32)
    · -- 92: case 6
      refine t_in (6 : Int32) (off := 143) (tgt := 235) hx hb d_M_step_92 h_92_6 (by decide) (by decide) (by decide) rfl ?_
      refine lv_aload_n hx hb d_M_step_235 rfl (lv_at hl 7 rfl) ?_
      refine lv_aload hx hb d_M_step_236 (lv_at hl 2 rfl) ?_
      refine k_getN (v := .int (k_a (cK (((f_E_byteAt fB ((k_a (cK 8)) + (1 : Int32))) &&& (7 : Int32)).toNatClampNeg)))) S hK hP (by first | assumption | exact and7_lt _) 5 (by decide) hN fn_M_87 rfl d_M_step_238 ?_
      refine lv_aload hx hb d_M_step_241 (lv_at hl 1 rfl) ?_
      refine k_getN (v := .int (k_a (cK (((f_E_byteAt fB ((k_a (cK 8)) + (2 : Int32))) &&& (7 : Int32)).toNatClampNeg)))) S hK hP (by first | assumption | exact and7_lt _) 5 (by decide) hN fn_M_87 rfl d_M_step_243 ?_
      refine jn 254 ls [.ref (xa 0)] (b2i (if (k_a (cK (((f_E_byteAt fB ((k_a (cK 8)) + (1 : Int32))) &&& (7 : Int32)).toNatClampNeg))) = (k_a (cK (((f_E_byteAt fB ((k_a (cK 8)) + (2 : Int32))) &&& (7 : Int32)).toNatClampNeg))) then false else true)) ?_ (fun k_254 => ?_)
      · -- from 254 on
        refine lv_iload hx hb d_M_step_254 (lv_at hl 3 rfl) ?_
        refine lv_i2b (v := (f_E_byteAt fB ((k_a (cK 8)) + (3 : Int32))).toInt8.toInt32) hx hb d_M_step_256 rfl ?_
        refine c_iV [] S (c_M_branch l _ _ _ _ _ _ _ _ _ A (mW_D hD) (if (k_a (cK (((f_E_byteAt fB ((k_a (cK 8)) + (1 : Int32))) &&& (7 : Int32)).toNatClampNeg))) = (k_a (cK (((f_E_byteAt fB ((k_a (cK 8)) + (2 : Int32))) &&& (7 : Int32)).toNatClampNeg))) then false else true) ((f_E_byteAt fB ((k_a (cK 8)) + (3 : Int32))).toInt8.toInt32)) mf_M_branch ml_M_94 hK hN hP hS 0 2 rfl rfl ⟨rfl, rfl, Nat.le_of_ble_eq_true rfl, Nat.le_of_ble_eq_true rfl⟩ rfl hl.1 rfl (Nat.le_of_ble_eq_true rfl) d_M_step_257 ⟨Nat.zero_le _, Nat.zero_le _⟩ (fun H locs hP hS => ?_)
        have hF : f_M_step sS fB gT cK = ((f_M_branch cK (if (k_a (cK (((f_E_byteAt fB ((k_a (cK 8)) + (1 : Int32))) &&& (7 : Int32)).toNatClampNeg))) = (k_a (cK (((f_E_byteAt fB ((k_a (cK 8)) + (2 : Int32))) &&& (7 : Int32)).toNatClampNeg))) then false else true) ((f_E_byteAt fB ((k_a (cK 8)) + (3 : Int32))).toInt8.toInt32)).1, sS, fB, gT, (f_M_branch cK (if (k_a (cK (((f_E_byteAt fB ((k_a (cK 8)) + (1 : Int32))) &&& (7 : Int32)).toNatClampNeg))) = (k_a (cK (((f_E_byteAt fB ((k_a (cK 8)) + (2 : Int32))) &&& (7 : Int32)).toNatClampNeg))) then false else true) ((f_E_byteAt fB ((k_a (cK 8)) + (3 : Int32))).toInt8.toInt32)).2) := (if_pos h_21).trans ((if_neg h_92_0).trans ((if_neg h_92_1).trans ((if_neg h_92_4).trans ((if_neg h_92_5).trans ((if_pos h_92_6).trans (rfl))))))
        exact e_wi S hr hlocks hP hS (congrArg (fun z => z.1) hF.symm) (congrArg (fun z => mW q xa ad z.2.1 sC z.2.2.1 z.2.2.2.1 z.2.2.2.2) hF.symm) d_M_step_260
      · -- to 254
        refine lv_icmp_eq (tgt := 253) hx hb d_M_step_246 rfl (fun h_246 => ?_) (fun h_246 => ?_)
        · -- 246: taken
          refine lv_iconst (v := (0 : Int32)) hx hb d_M_step_253 (by decide) ?_
          exact k_254 _ (congrArg b2i ((if_pos h_246).trans (rfl) : (if (k_a (cK (((f_E_byteAt fB ((k_a (cK 8)) + (1 : Int32))) &&& (7 : Int32)).toNatClampNeg))) = (k_a (cK (((f_E_byteAt fB ((k_a (cK 8)) + (2 : Int32))) &&& (7 : Int32)).toNatClampNeg))) then false else true) = false).symm)
        · -- 246: not taken
          refine lv_iconst (v := (1 : Int32)) hx hb d_M_step_249 (by decide) ?_
          refine lv_goto (tgt := 254) hx hb d_M_step_250 rfl ?_
          exact k_254 _ (congrArg b2i ((if_neg h_246).trans (rfl) : (if (k_a (cK (((f_E_byteAt fB ((k_a (cK 8)) + (1 : Int32))) &&& (7 : Int32)).toNatClampNeg))) = (k_a (cK (((f_E_byteAt fB ((k_a (cK 8)) + (2 : Int32))) &&& (7 : Int32)).toNatClampNeg))) then false else true) = true).symm)
    by_cases h_92_16 : (f_E_byteAt fB (k_a (cK 8))) = (16 : Int32)
    · -- 92: case 16
      refine t_in (16 : Int32) (off := 169) (tgt := 261) hx hb d_M_step_92 h_92_16 (by decide) (by decide) (by decide) rfl ?_
      refine lv_aload_n hx hb d_M_step_261 rfl (lv_at hl 7 rfl) ?_
      refine lv_aload hx hb d_M_step_262 (lv_at hl 2 rfl) ?_
      refine lv_aload hx hb d_M_step_264 (lv_at hl 1 rfl) ?_
      refine c_iV [] S (c_M_jump l _ _ _ _ _ _ _ _ _ A (mW_D hD) (((f_E_byteAt fB ((k_a (cK 8)) + (1 : Int32))) &&& (7 : Int32)).toNatClampNeg) (by first | assumption | exact and7_lt _) (((f_E_byteAt fB ((k_a (cK 8)) + (2 : Int32))) &&& (7 : Int32)).toNatClampNeg) (by first | assumption | exact and7_lt _)) mf_M_jump ml_M_98 hK hN hP hS 0 2 rfl rfl ⟨rfl, rfl, Nat.le_of_ble_eq_true rfl, Nat.le_of_ble_eq_true rfl⟩ rfl hl.1 rfl (Nat.le_of_ble_eq_true rfl) d_M_step_266 ⟨Nat.zero_le _, Nat.zero_le _⟩ (fun H locs hP hS => ?_)
      have hF : f_M_step sS fB gT cK = ((f_M_jump cK (((f_E_byteAt fB ((k_a (cK 8)) + (1 : Int32))) &&& (7 : Int32)).toNatClampNeg) (((f_E_byteAt fB ((k_a (cK 8)) + (2 : Int32))) &&& (7 : Int32)).toNatClampNeg)).1, sS, fB, gT, (f_M_jump cK (((f_E_byteAt fB ((k_a (cK 8)) + (1 : Int32))) &&& (7 : Int32)).toNatClampNeg) (((f_E_byteAt fB ((k_a (cK 8)) + (2 : Int32))) &&& (7 : Int32)).toNatClampNeg)).2) := (if_pos h_21).trans ((if_neg h_92_0).trans ((if_neg h_92_1).trans ((if_neg h_92_4).trans ((if_neg h_92_5).trans ((if_neg h_92_6).trans ((if_pos h_92_16).trans (rfl)))))))
      exact e_wi S hr hlocks hP hS (congrArg (fun z => z.1) hF.symm) (congrArg (fun z => mW q xa ad z.2.1 sC z.2.2.1 z.2.2.2.1 z.2.2.2.2) hF.symm) d_M_step_269
    refine t_no [0, 1, 4, 5, 6, 16] (tgt := 289) hx hb d_M_step_92 (List.forall_mem_cons.mpr ⟨lv_neT h_92_0 (by decide), List.forall_mem_cons.mpr ⟨lv_neT h_92_1 (by decide), List.forall_mem_cons.mpr ⟨lv_neT h_92_4 (by decide), List.forall_mem_cons.mpr ⟨lv_neT h_92_5 (by decide), List.forall_mem_cons.mpr ⟨lv_neT h_92_6 (by decide), List.forall_mem_cons.mpr ⟨lv_neT h_92_16 (by decide), fun _ h => absurd h List.not_mem_nil⟩⟩⟩⟩⟩⟩) (by decide) rfl ?_
    refine lv_aload_n hx hb d_M_step_289 rfl (lv_at hl 7 rfl) ?_
    refine lv_aload_n hx hb d_M_step_290 rfl (lv_at hl 7 rfl) ?_
    refine lv_iload hx hb d_M_step_291 (lv_at hl 0 rfl) ?_
    refine lv_aload hx hb d_M_step_293 (lv_at hl 2 rfl) ?_
    refine lv_aload hx hb d_M_step_295 (lv_at hl 1 rfl) ?_
    refine lv_aload_n hx hb d_M_step_297 rfl (lv_at hl 7 rfl) ?_
    refine m_get S hK hP 0 (by decide) fl_M_11 rfl d_M_step_298 ?_
    refine lv_iload hx hb d_M_step_301 (lv_at hl 3 rfl) ?_
    refine lv_bipush (v := (7 : Int32)) hx hb d_M_step_303 (by decide) ?_
    refine lv_iand hx hb d_M_step_305 ?_
    refine s_ald S hK hP (by first | assumption | exact and7_in _) d_M_step_306 ?_
    refine lv_iload hx hb d_M_step_307 (lv_at hl 3 rfl) ?_
    refine lv_i2b (v := (f_E_byteAt fB ((k_a (cK 8)) + (3 : Int32))).toInt8.toInt32) hx hb d_M_step_309 rfl ?_
    refine c_iV [.ref (xa 0)] S (c_M_compute l _ _ _ _ _ _ _ _ _ A (mW_D hD) (f_E_byteAt fB (k_a (cK 8))) (((f_E_byteAt fB ((k_a (cK 8)) + (1 : Int32))) &&& (7 : Int32)).toNatClampNeg) (by first | assumption | exact and7_lt _) (((f_E_byteAt fB ((k_a (cK 8)) + (2 : Int32))) &&& (7 : Int32)).toNatClampNeg) (by first | assumption | exact and7_lt _) (((f_E_byteAt fB ((k_a (cK 8)) + (3 : Int32))) &&& (7 : Int32)).toNatClampNeg) (by first | assumption | exact and7_lt _) ((f_E_byteAt fB ((k_a (cK 8)) + (3 : Int32))).toInt8.toInt32) (hg _ (in_lt (and7_in _)))) mf_M_compute ml_M_108 hK hN hP hS 0 2 rfl rfl ⟨rfl, rfl, Nat.le_of_ble_eq_true rfl, Nat.le_of_ble_eq_true rfl⟩ rfl hl.1 rfl (Nat.le_of_ble_eq_true rfl) d_M_step_310 ⟨Nat.zero_le _, Nat.zero_le _⟩ (fun H locs hP hS => ?_)
    refine c_iV [] S (c_M_advance l _ _ _ _ _ _ _ _ _ A (mW_D hD) ((f_M_compute fB gT cK (f_E_byteAt fB (k_a (cK 8))) (((f_E_byteAt fB ((k_a (cK 8)) + (1 : Int32))) &&& (7 : Int32)).toNatClampNeg) (((f_E_byteAt fB ((k_a (cK 8)) + (2 : Int32))) &&& (7 : Int32)).toNatClampNeg) (((f_E_byteAt fB ((k_a (cK 8)) + (3 : Int32))) &&& (7 : Int32)).toNatClampNeg) ((f_E_byteAt fB ((k_a (cK 8)) + (3 : Int32))).toInt8.toInt32)).1)) mf_M_advance ml_M_105 hK hN hP hS 0 2 rfl rfl ⟨rfl, rfl, Nat.le_of_ble_eq_true rfl, Nat.le_of_ble_eq_true rfl⟩ rfl hl.1 rfl (Nat.le_of_ble_eq_true rfl) d_M_step_313 ⟨Nat.zero_le _, Nat.zero_le _⟩ (fun H locs hP hS => ?_)
    have hF : f_M_step sS fB gT cK = ((f_M_advance ((f_M_compute fB gT cK (f_E_byteAt fB (k_a (cK 8))) (((f_E_byteAt fB ((k_a (cK 8)) + (1 : Int32))) &&& (7 : Int32)).toNatClampNeg) (((f_E_byteAt fB ((k_a (cK 8)) + (2 : Int32))) &&& (7 : Int32)).toNatClampNeg) (((f_E_byteAt fB ((k_a (cK 8)) + (3 : Int32))) &&& (7 : Int32)).toNatClampNeg) ((f_E_byteAt fB ((k_a (cK 8)) + (3 : Int32))).toInt8.toInt32)).2.2.2) ((f_M_compute fB gT cK (f_E_byteAt fB (k_a (cK 8))) (((f_E_byteAt fB ((k_a (cK 8)) + (1 : Int32))) &&& (7 : Int32)).toNatClampNeg) (((f_E_byteAt fB ((k_a (cK 8)) + (2 : Int32))) &&& (7 : Int32)).toNatClampNeg) (((f_E_byteAt fB ((k_a (cK 8)) + (3 : Int32))) &&& (7 : Int32)).toNatClampNeg) ((f_E_byteAt fB ((k_a (cK 8)) + (3 : Int32))).toInt8.toInt32)).1)).1, sS, (f_M_compute fB gT cK (f_E_byteAt fB (k_a (cK 8))) (((f_E_byteAt fB ((k_a (cK 8)) + (1 : Int32))) &&& (7 : Int32)).toNatClampNeg) (((f_E_byteAt fB ((k_a (cK 8)) + (2 : Int32))) &&& (7 : Int32)).toNatClampNeg) (((f_E_byteAt fB ((k_a (cK 8)) + (3 : Int32))) &&& (7 : Int32)).toNatClampNeg) ((f_E_byteAt fB ((k_a (cK 8)) + (3 : Int32))).toInt8.toInt32)).2.1, (f_M_compute fB gT cK (f_E_byteAt fB (k_a (cK 8))) (((f_E_byteAt fB ((k_a (cK 8)) + (1 : Int32))) &&& (7 : Int32)).toNatClampNeg) (((f_E_byteAt fB ((k_a (cK 8)) + (2 : Int32))) &&& (7 : Int32)).toNatClampNeg) (((f_E_byteAt fB ((k_a (cK 8)) + (3 : Int32))) &&& (7 : Int32)).toNatClampNeg) ((f_E_byteAt fB ((k_a (cK 8)) + (3 : Int32))).toInt8.toInt32)).2.2.1, (f_M_advance ((f_M_compute fB gT cK (f_E_byteAt fB (k_a (cK 8))) (((f_E_byteAt fB ((k_a (cK 8)) + (1 : Int32))) &&& (7 : Int32)).toNatClampNeg) (((f_E_byteAt fB ((k_a (cK 8)) + (2 : Int32))) &&& (7 : Int32)).toNatClampNeg) (((f_E_byteAt fB ((k_a (cK 8)) + (3 : Int32))) &&& (7 : Int32)).toNatClampNeg) ((f_E_byteAt fB ((k_a (cK 8)) + (3 : Int32))).toInt8.toInt32)).2.2.2) ((f_M_compute fB gT cK (f_E_byteAt fB (k_a (cK 8))) (((f_E_byteAt fB ((k_a (cK 8)) + (1 : Int32))) &&& (7 : Int32)).toNatClampNeg) (((f_E_byteAt fB ((k_a (cK 8)) + (2 : Int32))) &&& (7 : Int32)).toNatClampNeg) (((f_E_byteAt fB ((k_a (cK 8)) + (3 : Int32))) &&& (7 : Int32)).toNatClampNeg) ((f_E_byteAt fB ((k_a (cK 8)) + (3 : Int32))).toInt8.toInt32)).1)).2) := (if_pos h_21).trans ((if_neg h_92_0).trans ((if_neg h_92_1).trans ((if_neg h_92_4).trans ((if_neg h_92_5).trans ((if_neg h_92_6).trans ((if_neg h_92_16).trans (rfl)))))))
    exact e_wi S hr hlocks hP hS (congrArg (fun z => z.1) hF.symm) (congrArg (fun z => mW q xa ad z.2.1 sC z.2.2.1 z.2.2.2.1 z.2.2.2.2) hF.symm) d_M_step_316
  · -- 21: not taken
    refine lv_iload_n hx hb d_M_step_24 rfl (lv_at hl 0 rfl) ?_
    have hF : f_M_step sS fB gT cK = ((f_K_refusal cK 8 (4 : Int32) ((k_a (cK 8)).toInt64) (4 : Int32)), sS, fB, gT, cK) := (if_neg h_21).trans (rfl)
    exact e_wi S hr hlocks hP hS (congrArg (fun z => z.1) hF.symm) (congrArg (fun z => mW q xa ad z.2.1 sC z.2.2.1 z.2.2.2.1 z.2.2.2.2) hF.symm) d_M_step_25
