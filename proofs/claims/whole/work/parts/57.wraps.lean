theorem cl_L13 : Cond.classLink R_L 13 thX ∈ TB := tbT 258 (by decide +kernel) rfl
abbrev b_L_grant : ByteArray := method_3_code
def y_L_grant : MethodName := ⟨R_L, "grant", "(LCapMachine;IIIII)I"⟩
theorem d_L_grant_0 : decode b_L_grant 0 = .ok (.aload_n 0, 1) := by decide +kernel
theorem d_L_grant_1 : decode b_L_grant 1 = .ok (.iload_n 1, 1) := by decide +kernel
theorem d_L_grant_2 : decode b_L_grant 2 = .ok (.iload_n 2, 1) := by decide +kernel
theorem d_L_grant_3 : decode b_L_grant 3 = .ok (.iload_n 3, 1) := by decide +kernel
theorem d_L_grant_4 : decode b_L_grant 4 = .ok (.iload 4, 2) := by decide +kernel
theorem d_L_grant_6 : decode b_L_grant 6 = .ok (.iload 5, 2) := by decide +kernel
theorem d_L_grant_8 : decode b_L_grant 8 = .ok (.invokevirtual 7, 3) := by decide +kernel
theorem d_L_grant_11 : decode b_L_grant 11 = .ok (.goto 7, 3) := by decide +kernel
theorem d_L_grant_14 : decode b_L_grant 14 = .ok (.astore 6, 2) := by decide +kernel
theorem d_L_grant_16 : decode b_L_grant 16 = .ok (.iconst 1, 1) := by decide +kernel
theorem d_L_grant_17 : decode b_L_grant 17 = .ok (.ireturn, 1) := by decide +kernel
theorem d_L_grant_18 : decode b_L_grant 18 = .ok (.iconst 0, 1) := by decide +kernel
theorem d_L_grant_19 : decode b_L_grant 19 = .ok (.ireturn, 1) := by decide +kernel
theorem ml_L_7 : Cond.methodLink "CapMachineLaw" 7 y_M_grant ∈ TB := tbT 259 (by decide +kernel) rfl
theorem cw_L_grant : Cond.codeWith y_L_grant b_L_grant 7 (some .int) [(0, 11, 14, 13)] ∈ TB := tbT 257 (by decide +kernel) rfl
abbrev b_L_poke : ByteArray := method_4_code
def y_L_poke : MethodName := ⟨R_L, "poke", "(LCapMachine;III)I"⟩
theorem d_L_poke_0 : decode b_L_poke 0 = .ok (.aload_n 0, 1) := by decide +kernel
theorem d_L_poke_1 : decode b_L_poke 1 = .ok (.iload_n 1, 1) := by decide +kernel
theorem d_L_poke_2 : decode b_L_poke 2 = .ok (.iload_n 2, 1) := by decide +kernel
theorem d_L_poke_3 : decode b_L_poke 3 = .ok (.iload_n 3, 1) := by decide +kernel
theorem d_L_poke_4 : decode b_L_poke 4 = .ok (.invokevirtual 15, 3) := by decide +kernel
theorem d_L_poke_7 : decode b_L_poke 7 = .ok (.goto 7, 3) := by decide +kernel
theorem d_L_poke_10 : decode b_L_poke 10 = .ok (.astore 4, 2) := by decide +kernel
theorem d_L_poke_12 : decode b_L_poke 12 = .ok (.iconst 1, 1) := by decide +kernel
theorem d_L_poke_13 : decode b_L_poke 13 = .ok (.ireturn, 1) := by decide +kernel
theorem d_L_poke_14 : decode b_L_poke 14 = .ok (.iconst 0, 1) := by decide +kernel
theorem d_L_poke_15 : decode b_L_poke 15 = .ok (.ireturn, 1) := by decide +kernel
theorem ml_L_15 : Cond.methodLink "CapMachineLaw" 15 y_M_poke ∈ TB := tbT 327 (by decide +kernel) rfl
theorem cw_L_poke : Cond.codeWith y_L_poke b_L_poke 5 (some .int) [(0, 7, 10, 13)] ∈ TB := tbT 326 (by decide +kernel) rfl
abbrev b_L_look : ByteArray := method_5_code
def y_L_look : MethodName := ⟨R_L, "look", "(LCapMachine;II[J)I"⟩
theorem d_L_look_0 : decode b_L_look 0 = .ok (.aload_n 3, 1) := by decide +kernel
theorem d_L_look_1 : decode b_L_look 1 = .ok (.iconst 0, 1) := by decide +kernel
theorem d_L_look_2 : decode b_L_look 2 = .ok (.aload_n 0, 1) := by decide +kernel
theorem d_L_look_3 : decode b_L_look 3 = .ok (.iload_n 1, 1) := by decide +kernel
theorem d_L_look_4 : decode b_L_look 4 = .ok (.iload_n 2, 1) := by decide +kernel
theorem d_L_look_5 : decode b_L_look 5 = .ok (.invokevirtual 19, 3) := by decide +kernel
theorem d_L_look_8 : decode b_L_look 8 = .ok (.i2l, 1) := by decide +kernel
theorem d_L_look_9 : decode b_L_look 9 = .ok (.lastore, 1) := by decide +kernel
theorem d_L_look_10 : decode b_L_look 10 = .ok (.goto 7, 3) := by decide +kernel
theorem d_L_look_13 : decode b_L_look 13 = .ok (.astore 4, 2) := by decide +kernel
theorem d_L_look_15 : decode b_L_look 15 = .ok (.iconst 1, 1) := by decide +kernel
theorem d_L_look_16 : decode b_L_look 16 = .ok (.ireturn, 1) := by decide +kernel
theorem d_L_look_17 : decode b_L_look 17 = .ok (.iconst 0, 1) := by decide +kernel
theorem d_L_look_18 : decode b_L_look 18 = .ok (.ireturn, 1) := by decide +kernel
theorem ml_L_19 : Cond.methodLink "CapMachineLaw" 19 y_M_look ∈ TB := tbT 334 (by decide +kernel) rfl
theorem cw_L_look : Cond.codeWith y_L_look b_L_look 5 (some .int) [(0, 10, 13, 13)] ∈ TB := tbT 333 (by decide +kernel) rfl
abbrev b_L_peek : ByteArray := method_6_code
def y_L_peek : MethodName := ⟨R_L, "peek", "(LCapMachine;I[J)I"⟩
theorem d_L_peek_0 : decode b_L_peek 0 = .ok (.aload_n 2, 1) := by decide +kernel
theorem d_L_peek_1 : decode b_L_peek 1 = .ok (.iconst 0, 1) := by decide +kernel
theorem d_L_peek_2 : decode b_L_peek 2 = .ok (.aload_n 0, 1) := by decide +kernel
theorem d_L_peek_3 : decode b_L_peek 3 = .ok (.iload_n 1, 1) := by decide +kernel
theorem d_L_peek_4 : decode b_L_peek 4 = .ok (.invokevirtual 23, 3) := by decide +kernel
theorem d_L_peek_7 : decode b_L_peek 7 = .ok (.i2l, 1) := by decide +kernel
theorem d_L_peek_8 : decode b_L_peek 8 = .ok (.lastore, 1) := by decide +kernel
theorem d_L_peek_9 : decode b_L_peek 9 = .ok (.goto 6, 3) := by decide +kernel
theorem d_L_peek_12 : decode b_L_peek 12 = .ok (.astore_n 3, 1) := by decide +kernel
theorem d_L_peek_13 : decode b_L_peek 13 = .ok (.iconst 1, 1) := by decide +kernel
theorem d_L_peek_14 : decode b_L_peek 14 = .ok (.ireturn, 1) := by decide +kernel
theorem d_L_peek_15 : decode b_L_peek 15 = .ok (.iconst 0, 1) := by decide +kernel
theorem d_L_peek_16 : decode b_L_peek 16 = .ok (.ireturn, 1) := by decide +kernel
theorem ml_L_23 : Cond.methodLink "CapMachineLaw" 23 y_M_peek ∈ TB := tbT 341 (by decide +kernel) rfl
theorem cw_L_peek : Cond.codeWith y_L_peek b_L_peek 4 (some .int) [(0, 9, 12, 13)] ∈ TB := tbT 340 (by decide +kernel) rfl
theorem nf_grant (sS : Int32) (cK : Nat → Cp) (r0 nb nt na np : Int32) : (f_M_grant sS cK r0 nb nt na np).1 = true ∨ f_M_grant sS cK r0 nb nt na np = (false, sS, cK) := by
  unfold f_M_grant
  repeat' split
  all_goals first | exact Or.inl rfl | exact Or.inr rfl
theorem nf_poke (fB : Nat → Int32) (gT : Nat → Bool) (xt wd bt : Int32) : (f_M_poke fB gT xt wd bt).1 = true ∨ f_M_poke fB gT xt wd bt = (false, fB, gT) := by
  unfold f_M_poke
  repeat' split
  all_goals first | exact Or.inl rfl | exact Or.inr rfl
set_option maxHeartbeats 4000000 in
set_option maxRecDepth 100000 in
theorem c_L_grant (l : Launch) (hla : ∀ e, l.admits e → e.platform.stackTraces = false) (D : va_G) (q : Nat → ClassId) (xa ad : Nat → Nat) (sS sC : Int32) (fB : Nat → Int32) (gT : Nat → Bool) (cK : Nat → Cp) (A : Nat → Prop) (hD : va_D A (mW q xa ad sS sC fB gT cK)) (p0 p1 p2 p3 p4 : Int32) : Met l y_L_grant (.codeWith y_L_grant b_L_grant 7 (some .int) [(0, 11, 14, 13)] :: TB) ({ frames := 7, cells := 1, slots := 6, locals := 109 } : Room) (va_Pc [.ref (xa 0), .int p0, .int p1, .int p2, .int p3, .int p4] (PreT D (tyM q) (mW q xa ad sS sC fB gT cK))) (va_Qi (fun (z : Int32) (_ : Unit) => z = (if (f_M_grant sS cK p0 p1 p2 p3 p4).1 = true then (0 : Int32) else 1)) (fun _ t => va_P D cls (mW q xa ad (f_M_grant sS cK p0 p1 p2 p3 p4).2.1 sC fB gT (f_M_grant sS cK p0 p1 p2 p3 p4).2.2) t.heap) A) 1 6 A := by
  refine ofWr (by decide) (Nat.le_of_ble_eq_true rfl) ?_
  intro p e s m below meth c ls S hr hlocks hK hN hP hT htab hl
  have hx := S.1
  have hb := S.2.1
  have hS : va_S A s.heap s.heap [] := va_S.rf
  have hl : lv_has ls 7 [(0, .ref (xa 0)), (1, .int p0), (2, .int p1), (3, .int p2), (4, .int p3), (5, .int p4)] := hl
  refine lv_aload_n hx hb d_L_grant_0 rfl (lv_at hl 0 rfl) ?_
  refine lv_iload_n hx hb d_L_grant_1 rfl (lv_at hl 1 rfl) ?_
  refine lv_iload_n hx hb d_L_grant_2 rfl (lv_at hl 2 rfl) ?_
  refine lv_iload_n hx hb d_L_grant_3 rfl (lv_at hl 3 rfl) ?_
  refine lv_iload hx hb d_L_grant_4 (lv_at hl 4 rfl) ?_
  refine lv_iload hx hb d_L_grant_6 (lv_at hl 5 rfl) ?_
  by_cases hok : (f_M_grant sS cK p0 p1 p2 p3 p4).1 = true
  · refine c_tV [] S (mt_ok (c_M_grant l hla _ _ _ _ _ _ _ _ _ A hD p0 p1 p2 p3 p4) hok) mf_M_grant ml_L_7 hK hN hP hT (fun _ _ h => h) hS (fun _ h => h) 0 2 rfl rfl ⟨rfl, rfl, Nat.le_of_ble_eq_true rfl, Nat.le_of_ble_eq_true rfl⟩ rfl hl.1 rfl (Nat.le_of_ble_eq_true rfl) d_L_grant_8 ⟨Nat.le_of_ble_eq_true rfl, Nat.le_of_ble_eq_true rfl⟩ (fun H1 locs1 hP1 _ _ hS1 => ?_)
    refine lv_goto (tgt := 18) hx hb d_L_grant_11 rfl ?_
    refine lv_iconst (v := (0 : Int32)) hx hb d_L_grant_18 (by decide) ?_
    exact W.iret hx hb hr (fun t ht _ => ⟨⟨0, (), rfl, by rw [if_pos hok], by show va_P D cls (mW q xa ad (f_M_grant sS cK p0 p1 p2 p3 p4).2.1 sC fB gT (f_M_grant sS cK p0 p1 p2 p3 p4).2.2) t.heap; rw [ht]; exact hP1⟩, hS1.F ht⟩) hS1.2.2 d_L_grant_19 hlocks
  · have hF := (nf_grant sS cK p0 p1 p2 p3 p4).resolve_left hok
    refine c_thr [] 14 S (c_M_grant l hla _ _ _ _ _ _ _ _ _ A hD p0 p1 p2 p3 p4) hok mf_M_grant ml_L_7 hK hN hP hT (fun _ _ h => h) hS (fun _ h => h) 0 2 rfl rfl ⟨rfl, rfl, Nat.le_of_ble_eq_true rfl, Nat.le_of_ble_eq_true rfl⟩ rfl hl.1 rfl (Nat.le_of_ble_eq_true rfl) d_L_grant_8 ⟨Nat.le_of_ble_eq_true rfl, Nat.le_of_ble_eq_true rfl⟩ htab ⟨by decide, by decide⟩ (by decide) cl_L13 (fun x H1 locs1 hkeep _ hS1 => ?_)
    refine lv_astore (lv' := [(6, .ref _), (0, .ref _), (1, .int _), (2, .int _), (3, .int _), (4, .int _), (5, .int _)]) hx hb d_L_grant_14 hl (by decide) rfl (fun ls hl => ?_)
    refine lv_iconst (v := (1 : Int32)) hx hb d_L_grant_16 (by decide) ?_
    exact W.iret hx hb hr (fun t ht _ => ⟨⟨1, (), rfl, by rw [if_neg hok], by show va_P D cls (mW q xa ad (f_M_grant sS cK p0 p1 p2 p3 p4).2.1 sC fB gT (f_M_grant sS cK p0 p1 p2 p3 p4).2.2) t.heap; rw [ht, hF]; exact P_keep hP hkeep⟩, hS1.F ht⟩) hS1.2.2 d_L_grant_17 hlocks
set_option maxHeartbeats 4000000 in
set_option maxRecDepth 100000 in
theorem c_L_poke (l : Launch) (hla : ∀ e, l.admits e → e.platform.stackTraces = false) (D : va_G) (q : Nat → ClassId) (xa ad : Nat → Nat) (sS sC : Int32) (fB : Nat → Int32) (gT : Nat → Bool) (cK : Nat → Cp) (A : Nat → Prop) (hD : va_D A (mW q xa ad sS sC fB gT cK)) (p0 p1 p2 : Int32) : Met l y_L_poke (.codeWith y_L_poke b_L_poke 5 (some .int) [(0, 7, 10, 13)] :: TB) ({ frames := 7, cells := 1, slots := 6, locals := 104 } : Room) (va_Pc [.ref (xa 0), .int p0, .int p1, .int p2] (PreT D (tyM q) (mW q xa ad sS sC fB gT cK))) (va_Qi (fun (z : Int32) (_ : Unit) => z = (if (f_M_poke fB gT p0 p1 p2).1 = true then (0 : Int32) else 1)) (fun _ t => va_P D cls (mW q xa ad sS sC (f_M_poke fB gT p0 p1 p2).2.1 (f_M_poke fB gT p0 p1 p2).2.2 cK) t.heap) A) 1 6 A := by
  refine ofWr (by decide) (Nat.le_of_ble_eq_true rfl) ?_
  intro p e s m below meth c ls S hr hlocks hK hN hP hT htab hl
  have hx := S.1
  have hb := S.2.1
  have hS : va_S A s.heap s.heap [] := va_S.rf
  have hl : lv_has ls 5 [(0, .ref (xa 0)), (1, .int p0), (2, .int p1), (3, .int p2)] := hl
  refine lv_aload_n hx hb d_L_poke_0 rfl (lv_at hl 0 rfl) ?_
  refine lv_iload_n hx hb d_L_poke_1 rfl (lv_at hl 1 rfl) ?_
  refine lv_iload_n hx hb d_L_poke_2 rfl (lv_at hl 2 rfl) ?_
  refine lv_iload_n hx hb d_L_poke_3 rfl (lv_at hl 3 rfl) ?_
  by_cases hok : (f_M_poke fB gT p0 p1 p2).1 = true
  · refine c_tV [] S (mt_ok (c_M_poke l hla _ _ _ _ _ _ _ _ _ A hD p0 p1 p2) hok) mf_M_poke ml_L_15 hK hN hP hT (fun _ _ h => h) hS (fun _ h => h) 0 2 rfl rfl ⟨rfl, rfl, Nat.le_of_ble_eq_true rfl, Nat.le_of_ble_eq_true rfl⟩ rfl hl.1 rfl (Nat.le_of_ble_eq_true rfl) d_L_poke_4 ⟨Nat.le_of_ble_eq_true rfl, Nat.le_of_ble_eq_true rfl⟩ (fun H1 locs1 hP1 _ _ hS1 => ?_)
    refine lv_goto (tgt := 14) hx hb d_L_poke_7 rfl ?_
    refine lv_iconst (v := (0 : Int32)) hx hb d_L_poke_14 (by decide) ?_
    exact W.iret hx hb hr (fun t ht _ => ⟨⟨0, (), rfl, by rw [if_pos hok], by show va_P D cls (mW q xa ad sS sC (f_M_poke fB gT p0 p1 p2).2.1 (f_M_poke fB gT p0 p1 p2).2.2 cK) t.heap; rw [ht]; exact hP1⟩, hS1.F ht⟩) hS1.2.2 d_L_poke_15 hlocks
  · have hF := (nf_poke fB gT p0 p1 p2).resolve_left hok
    refine c_thr [] 10 S (c_M_poke l hla _ _ _ _ _ _ _ _ _ A hD p0 p1 p2) hok mf_M_poke ml_L_15 hK hN hP hT (fun _ _ h => h) hS (fun _ h => h) 0 2 rfl rfl ⟨rfl, rfl, Nat.le_of_ble_eq_true rfl, Nat.le_of_ble_eq_true rfl⟩ rfl hl.1 rfl (Nat.le_of_ble_eq_true rfl) d_L_poke_4 ⟨Nat.le_of_ble_eq_true rfl, Nat.le_of_ble_eq_true rfl⟩ htab ⟨by decide, by decide⟩ (by decide) cl_L13 (fun x H1 locs1 hkeep _ hS1 => ?_)
    refine lv_astore (lv' := [(4, .ref _), (0, .ref _), (1, .int _), (2, .int _), (3, .int _)]) hx hb d_L_poke_10 hl (by decide) rfl (fun ls hl => ?_)
    refine lv_iconst (v := (1 : Int32)) hx hb d_L_poke_12 (by decide) ?_
    exact W.iret hx hb hr (fun t ht _ => ⟨⟨1, (), rfl, by rw [if_neg hok], by show va_P D cls (mW q xa ad sS sC (f_M_poke fB gT p0 p1 p2).2.1 (f_M_poke fB gT p0 p1 p2).2.2 cK) t.heap; rw [ht, hF]; exact P_keep hP hkeep⟩, hS1.F ht⟩) hS1.2.2 d_L_poke_13 hlocks
set_option maxHeartbeats 4000000 in
set_option maxRecDepth 100000 in
theorem c_L_look (l : Launch) (hla : ∀ e, l.admits e → e.platform.stackTraces = false) (D : va_G) (q : Nat → ClassId) (xa ad : Nat → Nat) (sS sC : Int32) (fB : Nat → Int32) (gT : Nat → Bool) (cK : Nat → Cp) (ob : Nat) (cL : ClassId) (fo : Nat → Int64) (A : Nat → Prop) (hD : va_D A (mW q xa ad sS sC fB gT cK ++ [(ob, .inl (cL, 1, .inr (.inl fo)))])) (p0 p1 : Int32) : Met l y_L_look (.codeWith y_L_look b_L_look 5 (some .int) [(0, 10, 13, 13)] :: TB) ({ frames := 7, cells := 1, slots := 6, locals := 103 } : Room) (va_Pc [.ref (xa 0), .int p0, .int p1, .ref ob] (PreT D (tyM q ++ [(cL, .long)]) (mW q xa ad sS sC fB gT cK ++ [(ob, .inl (cL, 1, .inr (.inl fo)))]))) (va_Qi (fun (z : Int32) (_ : Unit) => z = (if (f_M_look cK p0 p1).1 = true then (0 : Int32) else 1)) (fun _ t => va_P D cls (mW q xa ad sS sC fB gT cK ++ [(ob, .inl (cL, 1, .inr (.inl (if (f_M_look cK p0 p1).1 = true then vp_updL fo 0 (f_M_look cK p0 p1).2.toInt64 else fo))))]) t.heap) A) 1 6 A := by
  refine ofWr (by decide) (Nat.le_of_ble_eq_true rfl) ?_
  intro p e s m below meth c ls S hr hlocks hK hN hP hT htab hl
  have hx := S.1
  have hb := S.2.1
  have hS : va_S A s.heap s.heap [] := va_S.rf
  have hl : lv_has ls 5 [(0, .ref (xa 0)), (1, .int p0), (2, .int p1), (3, .ref ob)] := hl
  have hK' : va_K D cls (tyM q) s := hK.sub [0, 1, 2] rfl
  have hPm := P_l hP
  have hDm := D_in (D_l hD)
  refine lv_aload_n hx hb d_L_look_0 rfl (lv_at hl 3 rfl) ?_
  refine lv_iconst (v := (0 : Int32)) hx hb d_L_look_1 (by decide) ?_
  refine lv_aload_n hx hb d_L_look_2 rfl (lv_at hl 0 rfl) ?_
  refine lv_iload_n hx hb d_L_look_3 rfl (lv_at hl 1 rfl) ?_
  refine lv_iload_n hx hb d_L_look_4 rfl (lv_at hl 2 rfl) ?_
  by_cases hok : (f_M_look cK p0 p1).1 = true
  · refine c_tI [.int 0, .ref ob] S (mt_oi (c_M_look l hla _ _ _ _ _ _ _ _ _ _ hDm p0 p1) hok) mf_M_look ml_L_19 hK' hN hPm hT (fun _ _ h => h) hS (A_sub (D_l hD)) 0 2 rfl rfl ⟨rfl, rfl, Nat.le_of_ble_eq_true rfl, Nat.le_of_ble_eq_true rfl⟩ rfl hl.1 rfl (Nat.le_of_ble_eq_true rfl) d_L_look_5 ⟨Nat.le_of_ble_eq_true rfl, Nat.le_of_ble_eq_true rfl⟩ (fun H1 locs1 hP1 _ hk1 hS1 => ?_)
    have hP2 : va_P D cls (mW q xa ad sS sC fB gT cK ++ [(ob, .inl (cL, 1, .inr (.inl fo)))]) H1 := hP1.app (P_fr hP hD hk1)
    refine lv_i2l (v := (f_M_look cK p0 p1).2.toInt64) hx hb d_L_look_8 rfl ?_
    refine va_last (D := D) hx hb hK hP2 hD hS1 17 3 rfl rfl (in_k rfl) d_L_look_9 (fun H2 locs2 hP3 _ hS2 => ?_)
    have hP4 : va_P D cls (mW q xa ad sS sC fB gT cK ++ [(ob, .inl (cL, 1, .inr (.inl (vp_updL fo 0 (f_M_look cK p0 p1).2.toInt64))))]) H2 := hP3
    refine lv_goto (tgt := 17) hx hb d_L_look_10 rfl ?_
    refine lv_iconst (v := (0 : Int32)) hx hb d_L_look_17 (by decide) ?_
    exact W.iret hx hb hr (fun t ht _ => ⟨⟨0, (), rfl, by rw [if_pos hok], by show va_P D cls (mW q xa ad sS sC fB gT cK ++ [(ob, .inl (cL, 1, .inr (.inl (if (f_M_look cK p0 p1).1 = true then vp_updL fo 0 (f_M_look cK p0 p1).2.toInt64 else fo))))]) t.heap; rw [ht, if_pos hok]; exact hP4⟩, hS2.F ht⟩) hS2.2.2 d_L_look_18 hlocks
  · refine c_thr [.int 0, .ref ob] 13 S (c_M_look l hla _ _ _ _ _ _ _ _ _ _ hDm p0 p1) hok mf_M_look ml_L_19 hK' hN hPm hT (fun _ _ h => h) hS (A_sub (D_l hD)) 0 2 rfl rfl ⟨rfl, rfl, Nat.le_of_ble_eq_true rfl, Nat.le_of_ble_eq_true rfl⟩ rfl hl.1 rfl (Nat.le_of_ble_eq_true rfl) d_L_look_5 ⟨Nat.le_of_ble_eq_true rfl, Nat.le_of_ble_eq_true rfl⟩ htab ⟨by decide, by decide⟩ (by decide) cl_L13 (fun x H1 locs1 hkeep _ hS1 => ?_)
    refine lv_astore (lv' := [(4, .ref _), (0, .ref _), (1, .int _), (2, .int _), (3, .ref _)]) hx hb d_L_look_13 hl (by decide) rfl (fun ls hl => ?_)
    refine lv_iconst (v := (1 : Int32)) hx hb d_L_look_15 (by decide) ?_
    exact W.iret hx hb hr (fun t ht _ => ⟨⟨1, (), rfl, by rw [if_neg hok], by show va_P D cls (mW q xa ad sS sC fB gT cK ++ [(ob, .inl (cL, 1, .inr (.inl (if (f_M_look cK p0 p1).1 = true then vp_updL fo 0 (f_M_look cK p0 p1).2.toInt64 else fo))))]) t.heap; rw [ht, if_neg hok]; exact P_keep hP hkeep⟩, hS1.F ht⟩) hS1.2.2 d_L_look_16 hlocks
set_option maxHeartbeats 4000000 in
set_option maxRecDepth 100000 in
theorem c_L_peek (l : Launch) (hla : ∀ e, l.admits e → e.platform.stackTraces = false) (D : va_G) (q : Nat → ClassId) (xa ad : Nat → Nat) (sS sC : Int32) (fB : Nat → Int32) (gT : Nat → Bool) (cK : Nat → Cp) (ob : Nat) (cL : ClassId) (fo : Nat → Int64) (A : Nat → Prop) (hD : va_D A (mW q xa ad sS sC fB gT cK ++ [(ob, .inl (cL, 1, .inr (.inl fo)))])) (p0 : Int32) : Met l y_L_peek (.codeWith y_L_peek b_L_peek 4 (some .int) [(0, 9, 12, 13)] :: TB) ({ frames := 7, cells := 1, slots := 6, locals := 102 } : Room) (va_Pc [.ref (xa 0), .int p0, .ref ob] (PreT D (tyM q ++ [(cL, .long)]) (mW q xa ad sS sC fB gT cK ++ [(ob, .inl (cL, 1, .inr (.inl fo)))]))) (va_Qi (fun (z : Int32) (_ : Unit) => z = (if (f_M_peek fB p0).1 = true then (0 : Int32) else 1)) (fun _ t => va_P D cls (mW q xa ad sS sC fB gT cK ++ [(ob, .inl (cL, 1, .inr (.inl (if (f_M_peek fB p0).1 = true then vp_updL fo 0 (f_M_peek fB p0).2.toInt64 else fo))))]) t.heap) A) 1 6 A := by
  refine ofWr (by decide) (Nat.le_of_ble_eq_true rfl) ?_
  intro p e s m below meth c ls S hr hlocks hK hN hP hT htab hl
  have hx := S.1
  have hb := S.2.1
  have hS : va_S A s.heap s.heap [] := va_S.rf
  have hl : lv_has ls 4 [(0, .ref (xa 0)), (1, .int p0), (2, .ref ob)] := hl
  have hK' : va_K D cls (tyM q) s := hK.sub [0, 1, 2] rfl
  have hPm := P_l hP
  have hDm := D_in (D_l hD)
  refine lv_aload_n hx hb d_L_peek_0 rfl (lv_at hl 2 rfl) ?_
  refine lv_iconst (v := (0 : Int32)) hx hb d_L_peek_1 (by decide) ?_
  refine lv_aload_n hx hb d_L_peek_2 rfl (lv_at hl 0 rfl) ?_
  refine lv_iload_n hx hb d_L_peek_3 rfl (lv_at hl 1 rfl) ?_
  by_cases hok : (f_M_peek fB p0).1 = true
  · refine c_tI [.int 0, .ref ob] S (mt_oi (c_M_peek l hla _ _ _ _ _ _ _ _ _ _ hDm p0) hok) mf_M_peek ml_L_23 hK' hN hPm hT (fun _ _ h => h) hS (A_sub (D_l hD)) 0 2 rfl rfl ⟨rfl, rfl, Nat.le_of_ble_eq_true rfl, Nat.le_of_ble_eq_true rfl⟩ rfl hl.1 rfl (Nat.le_of_ble_eq_true rfl) d_L_peek_4 ⟨Nat.le_of_ble_eq_true rfl, Nat.le_of_ble_eq_true rfl⟩ (fun H1 locs1 hP1 _ hk1 hS1 => ?_)
    have hP2 : va_P D cls (mW q xa ad sS sC fB gT cK ++ [(ob, .inl (cL, 1, .inr (.inl fo)))]) H1 := hP1.app (P_fr hP hD hk1)
    refine lv_i2l (v := (f_M_peek fB p0).2.toInt64) hx hb d_L_peek_7 rfl ?_
    refine va_last (D := D) hx hb hK hP2 hD hS1 17 3 rfl rfl (in_k rfl) d_L_peek_8 (fun H2 locs2 hP3 _ hS2 => ?_)
    have hP4 : va_P D cls (mW q xa ad sS sC fB gT cK ++ [(ob, .inl (cL, 1, .inr (.inl (vp_updL fo 0 (f_M_peek fB p0).2.toInt64))))]) H2 := hP3
    refine lv_goto (tgt := 15) hx hb d_L_peek_9 rfl ?_
    refine lv_iconst (v := (0 : Int32)) hx hb d_L_peek_15 (by decide) ?_
    exact W.iret hx hb hr (fun t ht _ => ⟨⟨0, (), rfl, by rw [if_pos hok], by show va_P D cls (mW q xa ad sS sC fB gT cK ++ [(ob, .inl (cL, 1, .inr (.inl (if (f_M_peek fB p0).1 = true then vp_updL fo 0 (f_M_peek fB p0).2.toInt64 else fo))))]) t.heap; rw [ht, if_pos hok]; exact hP4⟩, hS2.F ht⟩) hS2.2.2 d_L_peek_16 hlocks
  · refine c_thr [.int 0, .ref ob] 12 S (c_M_peek l hla _ _ _ _ _ _ _ _ _ _ hDm p0) hok mf_M_peek ml_L_23 hK' hN hPm hT (fun _ _ h => h) hS (A_sub (D_l hD)) 0 2 rfl rfl ⟨rfl, rfl, Nat.le_of_ble_eq_true rfl, Nat.le_of_ble_eq_true rfl⟩ rfl hl.1 rfl (Nat.le_of_ble_eq_true rfl) d_L_peek_4 ⟨Nat.le_of_ble_eq_true rfl, Nat.le_of_ble_eq_true rfl⟩ htab ⟨by decide, by decide⟩ (by decide) cl_L13 (fun x H1 locs1 hkeep _ hS1 => ?_)
    refine lv_astore_n (lv' := [(3, .ref _), (0, .ref _), (1, .int _), (2, .ref _)]) hx hb d_L_peek_12 rfl hl (by decide) rfl (fun ls hl => ?_)
    refine lv_iconst (v := (1 : Int32)) hx hb d_L_peek_13 (by decide) ?_
    exact W.iret hx hb hr (fun t ht _ => ⟨⟨1, (), rfl, by rw [if_neg hok], by show va_P D cls (mW q xa ad sS sC fB gT cK ++ [(ob, .inl (cL, 1, .inr (.inl (if (f_M_peek fB p0).1 = true then vp_updL fo 0 (f_M_peek fB p0).2.toInt64 else fo))))]) t.heap; rw [ht, if_neg hok]; exact P_keep hP hkeep⟩, hS1.F ht⟩) hS1.2.2 d_L_peek_14 hlocks
