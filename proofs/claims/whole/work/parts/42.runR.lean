def g_R_run (nn : Int32) : Nat → Int32 → Int32 → Int32 → Int32 → Int32 → Int32 → Int32 → Int32 → Int32 → Int32 → Bool → (Nat → Int32) → (Nat → Bool) → (Nat → Cp) → Int32 × Int32 × Int32 × Int32 × Int32 × Int32 × Int32 × Int32 × Int32 × Bool × (Nat → Int32) × (Nat → Bool) × (Nat → Cp)
  | 0, dn, _, ca, st, co, ra, rb, rc, im, hf, rz, fM, gT, cK => (dn, ca, st, co, ra, rb, rc, im, hf, rz, fM, gT, cK)
  | n + 1, dn, k, ca, st, co, ra, rb, rc, im, hf, rz, fM, gT, cK => if nn ≤ k then (dn, ca, st, co, ra, rb, rc, im, hf, rz, fM, gT, cK) else if (2000 : Int32) ≤ k then (dn, ca, st, co, ra, rb, rc, im, hf, rz, fM, gT, cK) else if st = (0 : Int32) then (if rz = true then (dn, ca, st, co, ra, rb, rc, im, hf, rz, fM, gT, cK) else g_R_run nn n (dn + (1 : Int32)) (k + (1 : Int32)) (f_R_step ca st co ra rb rc im hf fM gT cK).1 (f_R_step ca st co ra rb rc im hf fM gT cK).2.1 (f_R_step ca st co ra rb rc im hf fM gT cK).2.2.1 (f_R_step ca st co ra rb rc im hf fM gT cK).2.2.2.1 (f_R_step ca st co ra rb rc im hf fM gT cK).2.2.2.2.1 (f_R_step ca st co ra rb rc im hf fM gT cK).2.2.2.2.2.1 (f_R_step ca st co ra rb rc im hf fM gT cK).2.2.2.2.2.2.1 (f_R_step ca st co ra rb rc im hf fM gT cK).2.2.2.2.2.2.2.1 (f_R_step ca st co ra rb rc im hf fM gT cK).2.2.2.2.2.2.2.2.1 (f_R_step ca st co ra rb rc im hf fM gT cK).2.2.2.2.2.2.2.2.2.1 (f_R_step ca st co ra rb rc im hf fM gT cK).2.2.2.2.2.2.2.2.2.2.1 (f_R_step ca st co ra rb rc im hf fM gT cK).2.2.2.2.2.2.2.2.2.2.2) else (dn, ca, st, co, ra, rb, rc, im, hf, rz, fM, gT, cK)
def f_R_run (ca : Int32) (st : Int32) (co : Int32) (ra : Int32) (rb : Int32) (rc : Int32) (im : Int32) (hf : Int32) (fM : Nat → Int32) (gT : Nat → Bool) (cK : Nat → Cp) (nn : Int32) : Int32 × Int32 × Int32 × Int32 × Int32 × Int32 × Int32 × Int32 × Int32 × Bool × (Nat → Int32) × (Nat → Bool) × (Nat → Cp) := g_R_run nn 2000 0 0 ca st co ra rb rc im hf false fM gT cK
set_option maxHeartbeats 4000000 in
set_option maxRecDepth 100000 in
theorem lp_R_run {p : Program} {l : Launch} {e : Env} {s : State} {m : MethodId} {args : Array Value} {below : List Frame} {meth : Method} {c : Code} {Q : State → Prop} {D : va_G} {q : Nat → ClassId} {xa : Nat → Nat} {th0 : Int32} {ca0 : Int32} {st0 : Int32} {co0 : Int32} {ra0 : Int32} {rb0 : Int32} {rc0 : Int32} {im0 : Int32} {hf0 : Int32} {rz0 : Bool} {fM0 : Nat → Int32} {gT0 : Nat → Bool} {cK0 : Nat → Cp} {th : Int32} {A : Nat → Prop} (S : CallFix p m c b_R_run 4 s args TB R_R) (hK : va_K D cls (tyR q) s) (hN : NL s) (hD : va_D A (rW q xa th0 ca0 st0 co0 ra0 rb0 rc0 im0 hf0 rz0 fM0 gT0 cK0)) (nn : Int32) (W0 : Int32 × Int32 × Int32 × Int32 × Int32 × Int32 × Int32 × Int32 × Int32 × Bool × (Nat → Int32) × (Nat → Bool) × (Nat → Cp))
    (ex : ∀ (dn : Int32) (ca : Int32) (st : Int32) (co : Int32) (ra : Int32) (rb : Int32) (rc : Int32) (im : Int32) (hf : Int32) (rz : Bool) (fM : Nat → Int32) (gT : Nat → Bool) (cK : Nat → Cp) (H : Heap) (locs : List Loc) (ls : Array Slot), (dn, ca, st, co, ra, rb, rc, im, hf, rz, fM, gT, cK) = W0 → va_P D cls (rW q xa th ca st co ra rb rc im hf rz fM gT cK) H → va_S A s.heap H locs → ls[2]? = some (.val (.int dn)) → W p l e ({ frames := 5, cells := 0, slots := 0, locals := 113 } : Room) s m args below meth c H locs 0 0 Q (F0 m 53 ls [])) :
    ∀ (n : Nat) (dn k : Int32) (ca : Int32) (st : Int32) (co : Int32) (ra : Int32) (rb : Int32) (rc : Int32) (im : Int32) (hf : Int32) (rz : Bool) (fM : Nat → Int32) (gT : Nat → Bool) (cK : Nat → Cp) (H : Heap) (locs : List Loc) (ls : Array Slot), 0 ≤ k.toInt → k.toInt + (n : Int) = 2000 → Gr cK → Mg fM → g_R_run nn n dn k ca st co ra rb rc im hf rz fM gT cK = W0 → va_P D cls (rW q xa th ca st co ra rb rc im hf rz fM gT cK) H → va_S A s.heap H locs → lv_has ls 4 [(3, .int k), (2, .int dn), (0, .ref (xa 0)), (1, .int nn)] → W p l e ({ frames := 5, cells := 0, slots := 0, locals := 113 } : Room) s m args below meth c H locs 0 0 Q (F0 m 14 ls []) := by
  have hx := S.1
  have hb := S.2.1
  intro n
  induction n with
  | zero =>
    intro dn k ca st co ra rb rc im hf rz fM gT cK H locs ls h0 hn hG hm hF hP hS hl
    refine lv_iload_n hx hb d_R_run_14 rfl (lv_at hl 0 rfl) ?_
    refine lv_iload_n hx hb d_R_run_15 rfl (lv_at hl 3 rfl) ?_
    refine lv_icmp_ge (tgt := 53) hx hb d_R_run_16 rfl (fun _ => ?_) (fun _ => ?_)
    · exact ex dn ca st co ra rb rc im hf rz fM gT cK H locs ls hF hP hS (lv_at hl 1 rfl)
    refine lv_iload_n hx hb d_R_run_19 rfl (lv_at hl 0 rfl) ?_
    refine lv_sipush (v := (2000 : Int32)) hx hb d_R_run_20 (by decide) ?_
    refine lv_icmp_ge (tgt := 53) hx hb d_R_run_23 rfl (fun _ => ?_) (fun h => ?_)
    · exact ex dn ca st co ra rb rc im hf rz fM gT cK H locs ls hF hP hS (lv_at hl 1 rfl)
    · have e2 : (2000 : Int32).toInt = 2000 := by decide
      exact absurd (Int32.le_iff_toInt_le.mpr (by omega)) h
  | succ n ih =>
    intro dn k ca st co ra rb rc im hf rz fM gT cK H locs ls h0 hn hG hm hF hP hS hl
    have e2 : (k + (1 : Int32)).toInt = k.toInt + 1 := by
      have e1' : (1 : Int32).toInt = 1 := by decide
      exact (ad_s (x := k) (y := 1) (by omega) (by omega)).trans (by omega)
    refine lv_iload_n hx hb d_R_run_14 rfl (lv_at hl 0 rfl) ?_
    refine lv_iload_n hx hb d_R_run_15 rfl (lv_at hl 3 rfl) ?_
    refine lv_icmp_ge (tgt := 53) hx hb d_R_run_16 rfl (fun h1 => ?_) (fun h1 => ?_)
    · exact ex dn ca st co ra rb rc im hf rz fM gT cK H locs ls (((if_pos h1) : g_R_run nn (n + 1) dn k ca st co ra rb rc im hf rz fM gT cK = _).symm.trans hF) hP hS (lv_at hl 1 rfl)
    refine lv_iload_n hx hb d_R_run_19 rfl (lv_at hl 0 rfl) ?_
    refine lv_sipush (v := (2000 : Int32)) hx hb d_R_run_20 (by decide) ?_
    refine lv_icmp_ge (tgt := 53) hx hb d_R_run_23 rfl (fun h2 => ?_) (fun h2 => ?_)
    · exact ex dn ca st co ra rb rc im hf rz fM gT cK H locs ls (((if_neg h1).trans (if_pos h2) : g_R_run nn (n + 1) dn k ca st co ra rb rc im hf rz fM gT cK = _).symm.trans hF) hP hS (lv_at hl 1 rfl)
    refine lv_aload_n hx hb d_R_run_26 rfl (lv_at hl 2 rfl) ?_
    refine r_get S hK hP 10 (by decide) fl_R_168 rfl d_R_run_27 ?_
    refine lv_if_ne (tgt := 53) hx hb d_R_run_30 rfl (fun h3 => ?_) (fun h3 => ?_)
    · exact ex dn ca st co ra rb rc im hf rz fM gT cK H locs ls (((if_neg h1).trans ((if_neg h2).trans (if_neg h3)) : g_R_run nn (n + 1) dn k ca st co ra rb rc im hf rz fM gT cK = _).symm.trans hF) hP hS (lv_at hl 1 rfl)
    refine lv_aload_n hx hb d_R_run_33 rfl (lv_at hl 2 rfl) ?_
    refine r_get S hK hP 17 (by decide) fl_R_161 rfl d_R_run_34 ?_
    refine zb_ne (tgt := 53) hx hb d_R_run_37 rfl (fun h4 => ?_) (fun h4 => ?_)
    · exact ex dn ca st co ra rb rc im hf rz fM gT cK H locs ls (((if_neg h1).trans ((if_neg h2).trans ((if_pos h3).trans (if_pos h4))) : g_R_run nn (n + 1) dn k ca st co ra rb rc im hf rz fM gT cK = _).symm.trans hF) hP hS (lv_at hl 1 rfl)
    refine lv_aload_n hx hb d_R_run_40 rfl (lv_at hl 2 rfl) ?_
    refine c_vV [] S (c_R_step l _ _ _ _ _ _ _ _ _ _ _ _ _ _ _ _ A (rW_D hD) hG hm) mf_R_step ml_R_177 hK hN hP hS 0 3 rfl rfl ⟨rfl, rfl, Nat.le_of_ble_eq_true rfl, Nat.le_of_ble_eq_true rfl⟩ rfl hl.1 rfl (Nat.le_of_ble_eq_true rfl) d_R_run_41 ⟨Nat.zero_le _, Nat.zero_le _⟩ (fun H locs hP hS => ?_)
    refine lv_iinc (k := 1) (v := dn + (1 : Int32)) (lv' := [(2, .int _), (3, .int _), (0, .ref _), (1, .int _)]) hx hb d_R_run_44 hl rfl (congrArg (dn + ·) (by decide)) (by decide) rfl (fun ls hl => ?_)
    refine lv_iinc (k := 1) (v := k + (1 : Int32)) (lv' := [(3, .int _), (2, .int _), (0, .ref _), (1, .int _)]) hx hb d_R_run_47 hl rfl (congrArg (k + ·) (by decide)) (by decide) rfl (fun ls hl => ?_)
    refine lv_goto (tgt := 14) hx hb d_R_run_50 rfl ?_
    have q := rs_inv (ca := ca) (st := st) (co := co) (ra := ra) (rb := rb) (rc := rc) (im := im) (hf := hf) (gU := gT) hG hm
    exact ih (dn + (1 : Int32)) (k + (1 : Int32)) _ _ _ _ _ _ _ _ _ _ _ _ _ _ _ (by omega) (by omega) q.1 q.2 (((if_neg h1).trans ((if_neg h2).trans ((if_pos h3).trans (if_neg (bn_f h4)))) : g_R_run nn (n + 1) dn k ca st co ra rb rc im hf rz fM gT cK = _).symm.trans hF) hP hS (lv_sub hl [0, 1, 2, 3] rfl)
set_option maxHeartbeats 4000000 in
set_option maxRecDepth 100000 in
theorem c_R_run (l : Launch) (D : va_G) (q : Nat → ClassId) (xa : Nat → Nat) (th : Int32) (ca : Int32) (st : Int32) (co : Int32) (ra : Int32) (rb : Int32) (rc : Int32) (im : Int32) (hf : Int32) (rz : Bool) (fM : Nat → Int32) (gT : Nat → Bool) (cK : Nat → Cp) (A : Nat → Prop) (hD : va_D A (rW q xa th ca st co ra rb rc im hf rz fM gT cK)) (nn : Int32) (hG : Gr cK) (hm : Mg fM) : WMi l y_R_run b_R_run 4 (some .int) ({ frames := 5, cells := 0, slots := 0, locals := 113 } : Room) [.ref (xa 0), .int nn] D (tyR q) (rW q xa th ca st co ra rb rc im hf rz fM gT cK) (rW q xa (0 : Int32) ((f_R_run ca st co ra rb rc im hf fM gT cK nn).2.1) ((f_R_run ca st co ra rb rc im hf fM gT cK nn).2.2.1) ((f_R_run ca st co ra rb rc im hf fM gT cK nn).2.2.2.1) ((f_R_run ca st co ra rb rc im hf fM gT cK nn).2.2.2.2.1) ((f_R_run ca st co ra rb rc im hf fM gT cK nn).2.2.2.2.2.1) ((f_R_run ca st co ra rb rc im hf fM gT cK nn).2.2.2.2.2.2.1) ((f_R_run ca st co ra rb rc im hf fM gT cK nn).2.2.2.2.2.2.2.1) ((f_R_run ca st co ra rb rc im hf fM gT cK nn).2.2.2.2.2.2.2.2.1) ((f_R_run ca st co ra rb rc im hf fM gT cK nn).2.2.2.2.2.2.2.2.2.1) ((f_R_run ca st co ra rb rc im hf fM gT cK nn).2.2.2.2.2.2.2.2.2.2.1) ((f_R_run ca st co ra rb rc im hf fM gT cK nn).2.2.2.2.2.2.2.2.2.2.2.1) ((f_R_run ca st co ra rb rc im hf fM gT cK nn).2.2.2.2.2.2.2.2.2.2.2.2)) A ((f_R_run ca st co ra rb rc im hf fM gT cK nn).1) := by
  refine ofI (by decide) (Nat.le_of_ble_eq_true rfl) ?_
  intro p e s m below meth c ls S hr hlocks hK hN hP hl
  have hx := S.1
  have hb := S.2.1
  have hS : va_S A s.heap s.heap [] := va_S.rf
  have hl : lv_has ls 4 [(0, .ref (xa 0)), (1, .int nn)] := hl
  refine lv_aload_n hx hb d_R_run_0 rfl (lv_at hl 0 rfl) ?_
  refine lv_iconst (v := (0 : Int32)) hx hb d_R_run_1 (by decide) ?_
  refine r_put_th S hK hP (rW_D hD) hS fl_R_39 d_R_run_2 (fun H locs hP hS => ?_)
  refine lv_iconst (v := (0 : Int32)) hx hb d_R_run_5 (by decide) ?_
  refine lv_istore_n (lv' := [(2, .int 0), (0, .ref (xa 0)), (1, .int nn)]) hx hb d_R_run_6 rfl hl (by decide) rfl (fun ls hl => ?_)
  refine lv_aload_n hx hb d_R_run_7 rfl (lv_at hl 1 rfl) ?_
  refine lv_iconst (v := (0 : Int32)) hx hb d_R_run_8 (by decide) ?_
  refine r_put_rz (z := false) S hK hP (rW_D hD) hS fl_R_161 d_R_run_9 (fun H locs hP hS => ?_)
  refine lv_iconst (v := (0 : Int32)) hx hb d_R_run_12 (by decide) ?_
  refine lv_istore_n (lv' := [(3, .int 0), (2, .int 0), (0, .ref (xa 0)), (1, .int nn)]) hx hb d_R_run_13 rfl hl (by decide) rfl (fun ls hl => ?_)
  exact lp_R_run S hK hN hD nn (f_R_run ca st co ra rb rc im hf fM gT cK nn) (fun dn ca st co ra rb rc im hf rz fM gT cK H locs ls hF hP hS h3 => by
    refine lv_iload_n hx hb d_R_run_53 rfl h3 ?_
    exact e_wi S hr hlocks hP hS (congrArg (fun z => z.1) hF) (congrArg (fun z => rW q xa (0 : Int32) z.2.1 z.2.2.1 z.2.2.2.1 z.2.2.2.2.1 z.2.2.2.2.2.1 z.2.2.2.2.2.2.1 z.2.2.2.2.2.2.2.1 z.2.2.2.2.2.2.2.2.1 z.2.2.2.2.2.2.2.2.2.1 z.2.2.2.2.2.2.2.2.2.2.1 z.2.2.2.2.2.2.2.2.2.2.2.1 z.2.2.2.2.2.2.2.2.2.2.2.2) hF) d_R_run_54) 2000 0 0 ca st co ra rb rc im hf false fM gT cK _ _ ls (by decide) (by decide) hG hm rfl hP hS hl
