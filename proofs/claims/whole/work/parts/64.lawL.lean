section LwCases
variable {p : Program} {l : Launch} {e : Env} {s : State} {m : MethodId} {args : Array Value} {below : List Frame} {meth : Method} {c : Code} {H : Heap} {locs : List Loc} {cells slots : Nat} {Q : State → Prop} {ls : Array Slot} {D : va_G} {A : Nat → Prop}
variable {q q2 : Nat → ClassId} {xa ad xb : Nat → Nat} {ob : Nat} {cL : ClassId} {bs L i : Nat} {xs : Nat → Int32}
theorem fin_gt {L i : Nat} (hL : L ≤ 3072) (hi : i ≤ L) (h : ¬ nI L - 6 < nI i) : i + 6 ≤ L := by
  have e6 : (6 : Int32).toInt = 6 := by decide
  have e1 := nI_toInt (n := L) (by omega)
  have e2 := nI_toInt (n := i) (by omega)
  have e3 := sb_s (x := nI L) (y := 6) (by omega) (by omega)
  rw [Int32.lt_iff_toInt_lt] at h
  omega
set_option maxHeartbeats 4000000 in
set_option maxRecDepth 100000 in
theorem lw_iter (C : LwC l p s m args c D A q xa ad q2 xb ob cL bs L xs)
    (ex : ∀ (H : Heap) (locs : List Loc) (ls : Array Slot) (cells slots : Nat), cells ≤ 601024 → slots ≤ 7293034 → va_S A s.heap H locs → W p l e room_1 s m args below meth c H locs cells slots Q (F0 m 438 ls [])) (hi : i ≤ L) (hI : LwI D q xa ad q2 xb ob cL H) (hS : va_S A s.heap H locs) (hl : lv_has ls 7 [(4, .int (nI i)), (3, .ref ob), (2, .ref (xb 0)), (1, .ref (xa 0)), (0, .ref bs)])
    (nx : i + 6 ≤ L → ∀ (H : Heap) (locs : List Loc) (ls : Array Slot), LwI D q xa ad q2 xb ob cL H → va_S A s.heap H locs → lv_has ls 7 [(4, .int (nI (i + 6))), (3, .ref ob), (2, .ref (xb 0)), (1, .ref (xa 0)), (0, .ref bs)] → W p l e room_1 s m args below meth c H locs (27 + (i + 6)) (1336 + 6 * (i + 6)) Q (F0 m 23 ls [])) : W p l e room_1 s m args below meth c H locs (27 + i) (1336 + 6 * i) Q (F0 m 23 ls []) := by
  obtain ⟨hla, S, hX, hbl, hAs, hL, -⟩ := id C
  have hx := S.1
  have hb := S.2.1
  have hbA := hAs bs hbl
  refine lv_iload hx hb d_L_23 (lv_at hl 0 rfl) ?_
  refine lv_aload_n hx hb d_L_25 rfl (lv_at hl 4 rfl) ?_
  refine va_slen hx hb hX hbl hbA hS d_L_26 ?_
  refine lv_bipush (v := (6 : Int32)) hx hb d_L_27 (by decide) ?_
  refine lv_isub hx hb d_L_29 ?_
  refine lv_icmp_gt (tgt := 438) hx hb d_L_30 rfl (fun _ => ?_) (fun h => ?_)
  · exact ex H locs ls _ _ (by omega) (by omega) hS
  have h6 : i + 6 ≤ L := fin_gt hL hi h
  refine lv_aload_n hx hb d_L_33 rfl (lv_at hl 4 rfl) ?_
  refine lv_iload hx hb d_L_34 (lv_at hl 0 rfl) ?_
  refine va_sld hx hb hX hbl hbA hS (nI_in (by omega) (by omega)) d_L_36 ?_
  rw [nI_clamp (by omega)]
  refine lv_bipush (v := (7 : Int32)) hx hb d_L_37 (by decide) ?_
  refine lv_iand hx hb d_L_39 ?_
  have kk : ∀ (H : Heap) (locs : List Loc) (ls : Array Slot), LwI D q xa ad q2 xb ob cL H → va_S A s.heap H locs → lv_has ls 7 [(4, .int (nI i)), (3, .ref ob), (2, .ref (xb 0)), (1, .ref (xa 0)), (0, .ref bs)] → W p l e room_1 s m args below meth c H locs (27 + i + 1) (1336 + 6 * i + 6) Q (F0 m 432 ls []) := by
    intro H locs ls hI hS hl
    refine lv_iinc (k := 0) (v := nI (i + 6)) (lv' := [(4, .int (nI (i + 6))), (3, .ref ob), (2, .ref (xb 0)), (1, .ref (xa 0)), (0, .ref bs)]) hx hb d_L_432 hl rfl ((congrArg (nI i + ·) (by decide : Int32.ofInt 6 = nI 6)).trans (ni_add i 6)) (by decide) rfl (fun ls hl => ?_)
    refine lv_goto (tgt := 23) hx hb d_L_435 rfl ?_
    refine W.widen (k := 27 + (i + 6)) (n := 1336 + 6 * (i + 6)) (by omega) (by omega) ?_
    exact nx h6 H locs ls hI hS hl
  have hcs : 27 + i + 1 ≤ 601024 ∧ 1336 + 6 * i + 6 ≤ 7293034 := ⟨by omega, by omega⟩
  rcases eight (xs i) with h | h | h | h | h | h | h | h
  · exact t_in 0 hx hb d_L_40 h (by decide) (by decide) rfl rfl (lc_grant C h6 hcs hI hS hl kk)
  · exact t_in 1 hx hb d_L_40 h (by decide) (by decide) rfl rfl (lc_poke C h6 hcs hI hS hl kk)
  · exact t_in 2 hx hb d_L_40 h (by decide) (by decide) rfl rfl (lc_run C h6 hcs hI hS hl kk)
  · exact t_in 3 hx hb d_L_40 h (by decide) (by decide) rfl rfl (lc_state C h6 hcs hI hS hl kk)
  · exact t_in 4 hx hb d_L_40 h (by decide) (by decide) rfl rfl (lc_cause C h6 hcs hI hS hl kk)
  · exact t_in 5 hx hb d_L_40 h (by decide) (by decide) rfl rfl (lc_look C h6 hcs hI hS hl kk)
  · exact t_in 6 hx hb d_L_40 h (by decide) (by decide) rfl rfl (lc_peek C h6 hcs hI hS hl kk)
  · exact t_in 7 hx hb d_L_40 h (by decide) (by decide) rfl rfl (lc_tagged C h6 hcs hI hS hl kk)
theorem lw_loop (C : LwC l p s m args c D A q xa ad q2 xb ob cL bs L xs)
    (ex : ∀ (H : Heap) (locs : List Loc) (ls : Array Slot) (cells slots : Nat), cells ≤ 601024 → slots ≤ 7293034 → va_S A s.heap H locs → W p l e room_1 s m args below meth c H locs cells slots Q (F0 m 438 ls [])) : ∀ (n i : Nat) (H : Heap) (locs : List Loc) (ls : Array Slot), i ≤ L → L ≤ i + n → LwI D q xa ad q2 xb ob cL H → va_S A s.heap H locs → lv_has ls 7 [(4, .int (nI i)), (3, .ref ob), (2, .ref (xb 0)), (1, .ref (xa 0)), (0, .ref bs)] → W p l e room_1 s m args below meth c H locs (27 + i) (1336 + 6 * i) Q (F0 m 23 ls []) := by
  intro n
  induction n with
  | zero => exact fun i H locs ls hi hn hI hS hl => lw_iter C ex hi hI hS hl (fun h => absurd h (by omega))
  | succ n ih => exact fun i H locs ls hi hn hI hS hl => lw_iter C ex hi hI hS hl (fun h H locs ls hI hS hl => ih (i + 6) H locs ls h (by omega) hI hS hl)
end LwCases
theorem fl_tr {l : Launch} (h : l.flags = flags0) : ∀ e, l.admits e → e.platform.stackTraces = false := fun e ha => by
  have h1 : e.platform.stackTraces = l.stackTraces := by rw [ha.platform]
  rw [h1]
  unfold Launch.stackTraces
  rw [h]
  decide +kernel
