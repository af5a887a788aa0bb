theorem ml_M_60 : Cond.methodLink "CapMachine" 60 y_M_step ∈ TB := tbT 104 (by decide +kernel) rfl
theorem ml_M_64 : Cond.methodLink "CapMachine" 64 y_M_takeException ∈ TB := tbT 239 (by decide +kernel) rfl
theorem ml_R_177 : Cond.methodLink "CapMachineModel" 177 y_R_step ∈ TB := tbT 434 (by decide +kernel) rfl
theorem ml_min : Cond.methodLink R_M 54 Lib.Math.min.name ∈ TB := tbT 101 (by decide +kernel) rfl
theorem st_min : Cond.static Lib.Math.min.name ∈ TB := tbT 102 (by decide +kernel) rfl
theorem in_min : Cond.initialized "java/lang/Math" ∈ TB := tbT 9 (by decide +kernel) rfl
theorem cd_min : Cond.code Lib.Math.min.name Lib.Math.min.code 2 (some .int) ∈ TB := tbT 103 (by decide +kernel) rfl
theorem mf_M_run : MFv y_M_run b_M_run 6 (some .int) 1 := ⟨tbT 100 (by decide +kernel) rfl, tbT 1 (by decide +kernel) rfl, tbT 98 (by decide +kernel) rfl, tbT 99 (by decide +kernel) rfl, by decide, by decide, by decide +kernel⟩
theorem mf_R_run : MFv y_R_run b_R_run 4 (some .int) 1 := ⟨tbT 433 (by decide +kernel) rfl, tbT 4 (by decide +kernel) rfl, tbT 431 (by decide +kernel) rfl, tbT 432 (by decide +kernel) rfl, by decide, by decide, by decide +kernel⟩
def g_M_run (mo : Int32) : Nat → Int32 → Bool → Int32 → Int32 → (Nat → Int32) → (Nat → Bool) → (Nat → Cp) → Int32 × Int32 × Int32 × (Nat → Int32) × (Nat → Bool) × (Nat → Cp)
  | 0, dn, _, sS, sC, fB, gT, cK => (dn, sS, sC, fB, gT, cK)
  | n + 1, dn, sm, sS, sC, fB, gT, cK => if mo ≤ dn then (dn, sS, sC, fB, gT, cK) else if sm = true then (if sS = (0 : Int32) then (if (f_M_step sS fB gT cK).1 = (0 : Int32) then g_M_run mo n (dn + (1 : Int32)) sm (f_M_step sS fB gT cK).2.1 sC (f_M_step sS fB gT cK).2.2.1 (f_M_step sS fB gT cK).2.2.2.1 (f_M_step sS fB gT cK).2.2.2.2 else g_M_run mo n (dn + (1 : Int32)) false (f_M_takeException (f_M_step sS fB gT cK).2.1 (f_M_step sS fB gT cK).2.2.2.2 (f_M_step sS fB gT cK).1).1 (f_M_takeException (f_M_step sS fB gT cK).2.1 (f_M_step sS fB gT cK).2.2.2.2 (f_M_step sS fB gT cK).1).2.1 (f_M_step sS fB gT cK).2.2.1 (f_M_step sS fB gT cK).2.2.2.1 (f_M_takeException (f_M_step sS fB gT cK).2.1 (f_M_step sS fB gT cK).2.2.2.2 (f_M_step sS fB gT cK).1).2.2) else (dn, sS, sC, fB, gT, cK)) else (dn, sS, sC, fB, gT, cK)
def f_M_run (sS sC : Int32) (fB : Nat → Int32) (gT : Nat → Bool) (cK : Nat → Cp) (nn : Int32) : Int32 × Int32 × Int32 × (Nat → Int32) × (Nat → Bool) × (Nat → Cp) := g_M_run (if (2000 : Int32) < nn then (2000 : Int32) else nn) 2000 0 true sS sC fB gT cK
set_option maxHeartbeats 4000000 in
set_option maxRecDepth 100000 in
theorem lp_M_run {p : Program} {l : Launch} {e : Env} {s : State} {m : MethodId} {args : Array Value} {below : List Frame} {meth : Method} {c : Code} {Q : State → Prop} {D : va_G} {q : Nat → ClassId} {xa ad : Nat → Nat} {s0 c0 : Int32} {f0 : Nat → Int32} {g0 : Nat → Bool} {k0 : Nat → Cp} {A : Nat → Prop} (S : CallFix p m c b_M_run 6 s args TB R_M) (hK : va_K D cls (tyM q) s) (hN : NL s) (hD : va_D A (mW q xa ad s0 c0 f0 g0 k0)) (mo nn : Int32) (hmo : mo.toInt ≤ 2000) (W0 : Int32 × Int32 × Int32 × (Nat → Int32) × (Nat → Bool) × (Nat → Cp))
    (ex : ∀ (dn sS sC : Int32) (fB : Nat → Int32) (gT : Nat → Bool) (cK : Nat → Cp) (H : Heap) (locs : List Loc) (ls : Array Slot), (dn, sS, sC, fB, gT, cK) = W0 → va_P D cls (mW q xa ad sS sC fB gT cK) H → va_S A s.heap H locs → ls[3]? = some (.val (.int dn)) → W p l e ({ frames := 6, cells := 0, slots := 0, locals := 143 } : Room) s m args below meth c H locs 0 0 Q (F0 m 56 ls [])) :
    ∀ (n : Nat) (dn : Int32) (sm : Bool) (sS sC : Int32) (fB : Nat → Int32) (gT : Nat → Bool) (cK : Nat → Cp) (H : Heap) (locs : List Loc) (ls : Array Slot), 0 ≤ dn.toInt → dn.toInt + (n : Int) = 2000 → Gr cK → g_M_run mo n dn sm sS sC fB gT cK = W0 → va_P D cls (mW q xa ad sS sC fB gT cK) H → va_S A s.heap H locs → lv_has ls 6 [(4, .int (b2i sm)), (3, .int dn), (2, .int mo), (0, .ref (xa 0)), (1, .int nn)] → W p l e ({ frames := 6, cells := 0, slots := 0, locals := 143 } : Room) s m args below meth c H locs 0 0 Q (F0 m 13 ls []) := by
  have hx := S.1
  have hb := S.2.1
  intro n
  induction n with
  | zero =>
    intro dn sm sS sC fB gT cK H locs ls h0 hn hG hF hP hS hl
    refine lv_iload_n hx hb d_M_run_13 rfl (lv_at hl 1 rfl) ?_
    refine lv_iload_n hx hb d_M_run_14 rfl (lv_at hl 2 rfl) ?_
    refine lv_icmp_ge (tgt := 56) hx hb d_M_run_15 rfl (fun _ => ?_) (fun h => ?_)
    · exact ex dn sS sC fB gT cK H locs ls hF hP hS (lv_at hl 1 rfl)
    · exact absurd (Int32.le_iff_toInt_le.mpr (by omega)) h
  | succ n ih =>
    intro dn sm sS sC fB gT cK H locs ls h0 hn hG hF hP hS hl
    have e2 : (dn + (1 : Int32)).toInt = dn.toInt + 1 := by
      have e1' : (1 : Int32).toInt = 1 := by decide
      exact (ad_s (x := dn) (y := 1) (by omega) (by omega)).trans (by omega)
    refine lv_iload_n hx hb d_M_run_13 rfl (lv_at hl 1 rfl) ?_
    refine lv_iload_n hx hb d_M_run_14 rfl (lv_at hl 2 rfl) ?_
    refine lv_icmp_ge (tgt := 56) hx hb d_M_run_15 rfl (fun h1 => ?_) (fun h1 => ?_)
    · exact ex dn sS sC fB gT cK H locs ls (((if_pos h1) : g_M_run mo (n + 1) dn sm sS sC fB gT cK = _).symm.trans hF) hP hS (lv_at hl 1 rfl)
    refine lv_iload hx hb d_M_run_18 (lv_at hl 0 rfl) ?_
    refine zb_eq (tgt := 56) hx hb d_M_run_20 rfl (fun h2 => ?_) (fun h2 => ?_)
    · exact ex dn sS sC fB gT cK H locs ls (((if_neg h1).trans (if_neg (bn_f h2)) : g_M_run mo (n + 1) dn sm sS sC fB gT cK = _).symm.trans hF) hP hS (lv_at hl 1 rfl)
    refine lv_aload_n hx hb d_M_run_23 rfl (lv_at hl 3 rfl) ?_
    refine m_get S hK hP 6 (by decide) fl_M_40 rfl d_M_run_24 ?_
    refine lv_if_ne (tgt := 56) hx hb d_M_run_27 rfl (fun h3 => ?_) (fun h3 => ?_)
    · exact ex dn sS sC fB gT cK H locs ls (((if_neg h1).trans ((if_pos h2).trans (if_neg h3)) : g_M_run mo (n + 1) dn sm sS sC fB gT cK = _).symm.trans hF) hP hS (lv_at hl 1 rfl)
    refine lv_aload_n hx hb d_M_run_30 rfl (lv_at hl 3 rfl) ?_
    refine c_iV [] S (c_M_step l _ _ _ _ _ _ _ _ _ A (mW_D hD) hG) mf_M_step ml_M_60 hK hN hP hS 0 2 rfl rfl ⟨rfl, rfl, Nat.le_of_ble_eq_true rfl, Nat.le_of_ble_eq_true rfl⟩ rfl hl.1 rfl (Nat.le_of_ble_eq_true rfl) d_M_run_31 ⟨Nat.zero_le _, Nat.zero_le _⟩ (fun H locs hP hS => ?_)
    refine lv_istore (lv' := [(5, .int _), (4, .int _), (3, .int _), (2, .int _), (0, .ref _), (1, .int _)]) hx hb d_M_run_34 hl (by decide) rfl (fun ls hl => ?_)
    refine lv_iinc (k := 2) (v := dn + (1 : Int32)) (lv' := [(3, .int _), (5, .int _), (4, .int _), (2, .int _), (0, .ref _), (1, .int _)]) hx hb d_M_run_36 hl rfl (congrArg (dn + ·) (by decide)) (by decide) rfl (fun ls hl => ?_)
    refine lv_iload hx hb d_M_run_39 (lv_at hl 1 rfl) ?_
    refine lv_if_eq (tgt := 53) hx hb d_M_run_41 rfl (fun h4 => ?_) (fun h4 => ?_)
    · refine lv_goto (tgt := 13) hx hb d_M_run_53 rfl ?_
      exact ih (dn + (1 : Int32)) sm _ _ _ _ _ _ _ _ (by omega) (by omega) (gr_sk hG h4) (((if_neg h1).trans ((if_pos h2).trans ((if_pos h3).trans (if_pos h4))) : g_M_run mo (n + 1) dn sm sS sC fB gT cK = _).symm.trans hF) hP hS (lv_sub hl [2, 0, 3, 4, 5] rfl)
    · refine lv_aload_n hx hb d_M_run_44 rfl (lv_at hl 4 rfl) ?_
      refine lv_iload hx hb d_M_run_45 (lv_at hl 1 rfl) ?_
      refine c_vV [] S (c_M_takeException l _ _ _ _ _ _ _ _ _ A (mW_D hD) ((f_M_step sS fB gT cK).1)) mf_M_takeException ml_M_64 hK hN hP hS 0 2 rfl rfl ⟨rfl, rfl, Nat.le_of_ble_eq_true rfl, Nat.le_of_ble_eq_true rfl⟩ rfl hl.1 rfl (Nat.le_of_ble_eq_true rfl) d_M_run_47 ⟨Nat.zero_le _, Nat.zero_le _⟩ (fun H locs hP hS => ?_)
      refine lv_iconst (v := (0 : Int32)) hx hb d_M_run_50 (by decide) ?_
      refine lv_istore (lv' := [(4, .int _), (3, .int _), (5, .int _), (2, .int _), (0, .ref _), (1, .int _)]) hx hb d_M_run_51 hl (by decide) rfl (fun ls hl => ?_)
      refine lv_goto (tgt := 13) hx hb d_M_run_53 rfl ?_
      exact ih (dn + (1 : Int32)) false _ _ _ _ _ _ _ _ (by omega) (by omega) (gr_sn hG h4) (((if_neg h1).trans ((if_pos h2).trans ((if_pos h3).trans (if_neg h4))) : g_M_run mo (n + 1) dn sm sS sC fB gT cK = _).symm.trans hF) hP hS (lv_sub hl [0, 1, 3, 4, 5] rfl)
-- [3, 5, 4, 2, 0, 1] [4, 3, 5, 2, 0, 1]
set_option maxHeartbeats 4000000 in
set_option maxRecDepth 100000 in
theorem c_M_run (l : Launch) (D : va_G) (q : Nat → ClassId) (xa ad : Nat → Nat) (sS : Int32) (sC : Int32) (fB : Nat → Int32) (gT : Nat → Bool) (cK : Nat → Cp) (A : Nat → Prop) (hD : va_D A (mW q xa ad sS sC fB gT cK)) (nn : Int32) (hG : Gr cK) : WMi l y_M_run b_M_run 6 (some .int) ({ frames := 6, cells := 0, slots := 0, locals := 143 } : Room) [.ref (xa 0), .int nn] D (tyM q) (mW q xa ad sS sC fB gT cK) (mW q xa ad (f_M_run sS sC fB gT cK nn).2.1 (f_M_run sS sC fB gT cK nn).2.2.1 (f_M_run sS sC fB gT cK nn).2.2.2.1 (f_M_run sS sC fB gT cK nn).2.2.2.2.1 (f_M_run sS sC fB gT cK nn).2.2.2.2.2) A ((f_M_run sS sC fB gT cK nn).1) := by
  refine ofI (by decide) (Nat.le_of_ble_eq_true rfl) ?_
  intro p e s m below meth c ls S hr hlocks hK hN hP hl
  have hx := S.1
  have hb := S.2.1
  have hS : va_S A s.heap s.heap [] := va_S.rf
  have hl : lv_has ls 6 [(0, .ref (xa 0)), (1, .int nn)] := hl
  refine lv_iload_n hx hb d_M_run_0 rfl (lv_at hl 1 rfl) ?_
  refine lv_sipush (v := (2000 : Int32)) hx hb d_M_run_1 (by decide) ?_
  refine va_mmin hx hb (S.2.2.1.trans hl.1.symm) S.2.2.2.1 (S.2.2.2.2 _ ml_min) (S.2.2.2.2 _ st_min) (S.2.2.2.2 _ in_min) (S.2.2.2.2 _ cd_min) (Nat.le_of_ble_eq_true rfl) (Nat.le_of_ble_eq_true rfl) (Nat.zero_le _) (Nat.zero_le _) d_M_run_4 ?_
  have hmo : (if (2000 : Int32) < nn then (2000 : Int32) else nn).toInt ≤ 2000 := by
    have e2 : (2000 : Int32).toInt = 2000 := by decide
    split
    · omega
    · rename_i h
      rw [Int32.lt_iff_toInt_lt] at h
      omega
  refine lv_istore_n (lv' := [(2, .int (if (2000 : Int32) < nn then (2000 : Int32) else nn)), (0, .ref (xa 0)), (1, .int nn)]) hx hb d_M_run_7 rfl hl (by decide) rfl (fun ls hl => ?_)
  refine lv_iconst (v := (0 : Int32)) hx hb d_M_run_8 (by decide) ?_
  refine lv_istore_n (lv' := [(3, .int 0), (2, .int (if (2000 : Int32) < nn then (2000 : Int32) else nn)), (0, .ref (xa 0)), (1, .int nn)]) hx hb d_M_run_9 rfl hl (by decide) rfl (fun ls hl => ?_)
  refine lv_iconst (v := (1 : Int32)) hx hb d_M_run_10 (by decide) ?_
  refine lv_istore (lv' := [(4, .int 1), (3, .int 0), (2, .int (if (2000 : Int32) < nn then (2000 : Int32) else nn)), (0, .ref (xa 0)), (1, .int nn)]) hx hb d_M_run_11 hl (by decide) rfl (fun ls hl => ?_)
  exact lp_M_run S hK hN hD _ nn hmo (f_M_run sS sC fB gT cK nn) (fun dn sS sC fB gT cK H locs ls hF hP hS h3 => by
    refine lv_iload_n hx hb d_M_run_56 rfl h3 ?_
    exact e_wi S hr hlocks hP hS (congrArg (fun z => z.1) hF) (congrArg (fun z => mW q xa ad z.2.1 z.2.2.1 z.2.2.2.1 z.2.2.2.2.1 z.2.2.2.2.2) hF) d_M_run_57) 2000 0 true sS sC fB gT cK _ _ ls (by decide) (by decide) hG rfl hP hS hl
