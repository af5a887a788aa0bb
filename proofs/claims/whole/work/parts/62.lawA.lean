theorem lg_eq (x : Int64) : lg_cmp x x = 0 := by
  unfold lg_cmp
  rw [if_neg (Int64.lt_irrefl (a := x)), if_pos rfl]
section LwCases
variable {p : Program} {l : Launch} {e : Env} {s : State} {m : MethodId} {args : Array Value} {below : List Frame} {meth : Method} {c : Code} {H : Heap} {locs : List Loc} {cells slots : Nat} {Q : State → Prop} {ls : Array Slot} {D : va_G} {A : Nat → Prop}
variable {q q2 : Nat → ClassId} {xa ad xb : Nat → Nat} {ob : Nat} {cL : ClassId} {bs L i : Nat} {xs : Nat → Int32}
abbrev LwC (l : Launch) (p : Program) (s : State) (m : MethodId) (args : Array Value) (c : Code) (D : va_G) (A : Nat → Prop) (q : Nat → ClassId) (xa ad : Nat → Nat) (q2 : Nat → ClassId) (xb : Nat → Nat) (ob : Nat) (cL : ClassId) (bs L : Nat) (xs : Nat → Int32) : Prop :=
  (∀ e, l.admits e → e.platform.stackTraces = false) ∧ CallFix p m c code 7 s args TB R_L ∧ va_X bs L xs s s.heap ∧ bs < s.heap.size ∧ (∀ q : Nat, q < s.heap.size → ¬ A q) ∧ L ≤ 3072 ∧ va_K D cls (tyM q) s ∧ va_K D cls (tyR q2) s ∧ va_K D cls [(cL, .long)] s ∧ NL s ∧ TH s ∧ va_D A (lwW q xa ad q2 xb ob cL 0 0 (fun _ => 0) (fun _ => false) (fun _ => z0) 0 0 0 0 0 0 0 0 0 false (fun _ => 0) (fun _ => false) (fun _ => z0) (fun _ => 0))
set_option maxHeartbeats 4000000 in
set_option maxRecDepth 100000 in
theorem lc_run (C : LwC l p s m args c D A q xa ad q2 xb ob cL bs L xs) (hi : i + 6 ≤ L) (hcs : cells + 1 ≤ 601024 ∧ slots + 6 ≤ 7293034) (hI : LwI D q xa ad q2 xb ob cL H) (hS : va_S A s.heap H locs) (hl : lv_has ls 7 [(4, .int (nI i)), (3, .ref ob), (2, .ref (xb 0)), (1, .ref (xa 0)), (0, .ref bs)])
    (kk : ∀ (H : Heap) (locs : List Loc) (ls : Array Slot), LwI D q xa ad q2 xb ob cL H → va_S A s.heap H locs → lv_has ls 7 [(4, .int (nI i)), (3, .ref ob), (2, .ref (xb 0)), (1, .ref (xa 0)), (0, .ref bs)] → W p l e room_1 s m args below meth c H locs (cells + 1) (slots + 6) Q (F0 m 432 ls [])) : W p l e room_1 s m args below meth c H locs cells slots Q (F0 m 232 ls []) := by
  obtain ⟨hla, S, hX, hbl, hAs, hL, hK, hKR, hKL, hN, hT, hD0⟩ := C
  obtain ⟨sS, sC, fB, gT, cK, th, co, ra, rb, rc, im, hf, rz, fM, gU, dK, fo, hP, hQ, hM, hTr, hG⟩ := hI
  have hx := S.1
  have hb := S.2.1
  have hbA := hAs bs hbl
  have hc0 : cells ≤ 601024 ∧ slots ≤ 7293034 := ⟨by omega, by omega⟩
  have hH : ∀ (q : Nat) (c : Cell), s.heap[q]? = some c → H[q]? = some c := fun q c h => by
    have hlt := (Array.getElem?_eq_some_iff.mp h).1
    rw [hS.2.1 q hlt (hAs q hlt)]
    exact h
  have hD : va_D A (lwW q xa ad q2 xb ob cL sS sC fB gT cK th sC sS co ra rb rc im hf rz fM gU dK fo) := D_map hD0 rfl
  refine lv_aload_n hx hb d_L_232 rfl (lv_at hl 3 rfl) ?_
  refine sc_ld 1 S hl (fun h => lv_at h 4 rfl) (fun h => lv_at h 0 rfl) hX hbl hbA hS (by omega) hL (by decide) d_L_233 d_L_234 d_L_236 d_L_237 d_L_238 ?_
  have cM := c_M_run l D q xa ad sS sC fB gT cK (Ain (mW q xa ad sS sC fB gT cK)) (D_in (D_l hD)) (xs (i + 1)) hG
  have cR := fun (hR : va_D (Ain (rW q2 xb th sC sS co ra rb rc im hf rz fM gU dK)) (rW q2 xb th sC sS co ra rb rc im hf rz fM gU dK)) => c_R_run l D q2 xb th sC sS co ra rb rc im hf rz fM gU dK (Ain (rW q2 xb th sC sS co ra rb rc im hf rz fM gU dK)) hR (xs (i + 1)) (hG.to hQ) (mr_mg hM)
  have eq := eq_run hQ hM hTr hG sS sC co ra rb rc im hf (xs (i + 1))
  generalize f_M_run sS sC fB gT cK (xs (i + 1)) = MM at cM eq
  generalize f_R_run sC sS co ra rb rc im hf fM gU dK (xs (i + 1)) = RR at cR eq
  obtain ⟨dn, sS9, sC9, fB9, gT9, cK9⟩ := MM
  obtain ⟨dn2, ca9, st9, co9, ra9, rb9, rc9, im9, hf9, rz9, fM9, gU9, dK9⟩ := RR
  obtain ⟨e1, e2, e3, hM9, hT9, hQ9, hG9⟩ := eq
  have e1 : dn2 = dn := e1
  have e2 : ca9 = sC9 := e2
  have e3 : st9 = sS9 := e3
  subst e1; subst e2; subst e3
  refine c_iA [] S cM mf_M_run ml_L_45 hK hN (P_l hP) hS (A_sub (D_l hD)) 0 2 rfl rfl ⟨rfl, rfl, Nat.le_of_ble_eq_true rfl, Nat.le_of_ble_eq_true rfl⟩ rfl hl.1 rfl (Nat.le_of_ble_eq_true rfl) d_L_239 hc0 (fun H locs hP1 hk1 hS => ?_)
  have hP := fr_a hP hD hk1 hP1
  have hP : va_P D cls (lwW q xa ad q2 xb ob cL st9 ca9 fB9 gT9 cK9 th sC sS co ra rb rc im hf rz fM gU dK fo) H := hP
  have hD : va_D A (lwW q xa ad q2 xb ob cL st9 ca9 fB9 gT9 cK9 th sC sS co ra rb rc im hf rz fM gU dK fo) := D_map hD0 rfl
  refine lv_aload_n hx hb d_L_242 rfl (lv_at hl 2 rfl) ?_
  refine sc_ld 1 S hl (fun h => lv_at h 4 rfl) (fun h => lv_at h 0 rfl) hX hbl hbA hS (by omega) hL (by decide) d_L_243 d_L_244 d_L_246 d_L_247 d_L_248 ?_
  refine c_iA [.int dn2] S (cR (D_in (D_l (D_rot hD)))) mf_R_run ml_L_48 hKR hN (P_l (P_rot hP)) hS (A_sub (D_l (D_rot hD))) 0 3 rfl rfl ⟨rfl, rfl, Nat.le_of_ble_eq_true rfl, Nat.le_of_ble_eq_true rfl⟩ rfl hl.1 rfl (Nat.le_of_ble_eq_true rfl) d_L_249 hc0 (fun H locs hP1 hk1 hS => ?_)
  have hP := fr_r hP hD hk1 hP1
  have hP : va_P D cls (lwW q xa ad q2 xb ob cL st9 ca9 fB9 gT9 cK9 0 ca9 st9 co9 ra9 rb9 rc9 im9 hf9 rz9 fM9 gU9 dK9 fo) H := hP
  refine lv_icmp_eq (tgt := 432) hx hb d_L_252 rfl (fun _ => ?_) (fun h => absurd rfl h)
  refine W.widen (k := cells + 1) (n := slots + 6) (by omega) (by omega) ?_
  exact kk H locs ls ⟨_, _, _, _, _, _, _, _, _, _, _, _, _, _, _, _, _, hP, hQ9, hM9, hT9, hG9⟩ hS hl

set_option maxHeartbeats 4000000 in
set_option maxRecDepth 100000 in
theorem lc_state (C : LwC l p s m args c D A q xa ad q2 xb ob cL bs L xs) (hi : i + 6 ≤ L) (hcs : cells + 1 ≤ 601024 ∧ slots + 6 ≤ 7293034) (hI : LwI D q xa ad q2 xb ob cL H) (hS : va_S A s.heap H locs) (hl : lv_has ls 7 [(4, .int (nI i)), (3, .ref ob), (2, .ref (xb 0)), (1, .ref (xa 0)), (0, .ref bs)])
    (kk : ∀ (H : Heap) (locs : List Loc) (ls : Array Slot), LwI D q xa ad q2 xb ob cL H → va_S A s.heap H locs → lv_has ls 7 [(4, .int (nI i)), (3, .ref ob), (2, .ref (xb 0)), (1, .ref (xa 0)), (0, .ref bs)] → W p l e room_1 s m args below meth c H locs (cells + 1) (slots + 6) Q (F0 m 432 ls [])) : W p l e room_1 s m args below meth c H locs cells slots Q (F0 m 257 ls []) := by
  obtain ⟨hla, S, hX, hbl, hAs, hL, hK, hKR, hKL, hN, hT, hD0⟩ := C
  obtain ⟨sS, sC, fB, gT, cK, th, co, ra, rb, rc, im, hf, rz, fM, gU, dK, fo, hP, hQ, hM, hTr, hG⟩ := hI
  have hx := S.1
  have hb := S.2.1
  have hbA := hAs bs hbl
  have hc0 : cells ≤ 601024 ∧ slots ≤ 7293034 := ⟨by omega, by omega⟩
  have hH : ∀ (q : Nat) (c : Cell), s.heap[q]? = some c → H[q]? = some c := fun q c h => by
    have hlt := (Array.getElem?_eq_some_iff.mp h).1
    rw [hS.2.1 q hlt (hAs q hlt)]
    exact h
  have hD : va_D A (lwW q xa ad q2 xb ob cL sS sC fB gT cK th sC sS co ra rb rc im hf rz fM gU dK fo) := D_map hD0 rfl
  refine lv_aload_n hx hb d_L_257 rfl (lv_at hl 3 rfl) ?_
  refine c_pV [] S (c_M_state l D q xa ad sS sC fB gT cK) mf_M_state ml_L_49 hK hN (P_l hP) 0 2 rfl rfl ⟨rfl, rfl, Nat.le_of_ble_eq_true rfl, Nat.le_of_ble_eq_true rfl⟩ rfl hl.1 rfl (Nat.le_of_ble_eq_true rfl) d_L_258 hc0 ?_
  refine lv_aload_n hx hb d_L_261 rfl (lv_at hl 2 rfl) ?_
  refine c_iA [.int (f_M_state sS)] S (c_R_state l D q2 xb th sC sS co ra rb rc im hf rz fM gU dK (Ain (rW q2 xb th sC sS co ra rb rc im hf rz fM gU dK)) (D_in (D_l (D_rot hD)))) mf_R_state ml_L_52 hKR hN (P_l (P_rot hP)) hS (A_sub (D_l (D_rot hD))) 0 3 rfl rfl ⟨rfl, rfl, Nat.le_of_ble_eq_true rfl, Nat.le_of_ble_eq_true rfl⟩ rfl hl.1 rfl (Nat.le_of_ble_eq_true rfl) d_L_262 hc0 (fun H locs hP1 hk1 hS => ?_)
  have hP := fr_r hP hD hk1 hP1
  have hP : va_P D cls (lwW q xa ad q2 xb ob cL sS sC fB gT cK 0 sC sS co ra rb rc im hf rz fM gU dK fo) H := hP
  refine lv_icmp_eq (tgt := 432) hx hb d_L_265 rfl (fun _ => ?_) (fun h => absurd rfl h)
  refine W.widen (k := cells + 1) (n := slots + 6) (by omega) (by omega) ?_
  exact kk H locs ls ⟨_, _, _, _, _, _, _, _, _, _, _, _, _, _, _, _, _, hP, hQ, hM, hTr, hG⟩ hS hl

set_option maxHeartbeats 4000000 in
set_option maxRecDepth 100000 in
theorem lc_cause (C : LwC l p s m args c D A q xa ad q2 xb ob cL bs L xs) (hi : i + 6 ≤ L) (hcs : cells + 1 ≤ 601024 ∧ slots + 6 ≤ 7293034) (hI : LwI D q xa ad q2 xb ob cL H) (hS : va_S A s.heap H locs) (hl : lv_has ls 7 [(4, .int (nI i)), (3, .ref ob), (2, .ref (xb 0)), (1, .ref (xa 0)), (0, .ref bs)])
    (kk : ∀ (H : Heap) (locs : List Loc) (ls : Array Slot), LwI D q xa ad q2 xb ob cL H → va_S A s.heap H locs → lv_has ls 7 [(4, .int (nI i)), (3, .ref ob), (2, .ref (xb 0)), (1, .ref (xa 0)), (0, .ref bs)] → W p l e room_1 s m args below meth c H locs (cells + 1) (slots + 6) Q (F0 m 432 ls [])) : W p l e room_1 s m args below meth c H locs cells slots Q (F0 m 270 ls []) := by
  obtain ⟨hla, S, hX, hbl, hAs, hL, hK, hKR, hKL, hN, hT, hD0⟩ := C
  obtain ⟨sS, sC, fB, gT, cK, th, co, ra, rb, rc, im, hf, rz, fM, gU, dK, fo, hP, hQ, hM, hTr, hG⟩ := hI
  have hx := S.1
  have hb := S.2.1
  have hbA := hAs bs hbl
  have hc0 : cells ≤ 601024 ∧ slots ≤ 7293034 := ⟨by omega, by omega⟩
  have hH : ∀ (q : Nat) (c : Cell), s.heap[q]? = some c → H[q]? = some c := fun q c h => by
    have hlt := (Array.getElem?_eq_some_iff.mp h).1
    rw [hS.2.1 q hlt (hAs q hlt)]
    exact h
  have hD : va_D A (lwW q xa ad q2 xb ob cL sS sC fB gT cK th sC sS co ra rb rc im hf rz fM gU dK fo) := D_map hD0 rfl
  refine lv_aload_n hx hb d_L_270 rfl (lv_at hl 3 rfl) ?_
  refine c_pV [] S (c_M_cause l D q xa ad sS sC fB gT cK) mf_M_cause ml_L_53 hK hN (P_l hP) 0 2 rfl rfl ⟨rfl, rfl, Nat.le_of_ble_eq_true rfl, Nat.le_of_ble_eq_true rfl⟩ rfl hl.1 rfl (Nat.le_of_ble_eq_true rfl) d_L_271 hc0 ?_
  refine lv_aload_n hx hb d_L_274 rfl (lv_at hl 2 rfl) ?_
  refine c_iA [.int (f_M_cause sC)] S (c_R_cause l D q2 xb th sC sS co ra rb rc im hf rz fM gU dK (Ain (rW q2 xb th sC sS co ra rb rc im hf rz fM gU dK)) (D_in (D_l (D_rot hD)))) mf_R_cause ml_L_56 hKR hN (P_l (P_rot hP)) hS (A_sub (D_l (D_rot hD))) 0 3 rfl rfl ⟨rfl, rfl, Nat.le_of_ble_eq_true rfl, Nat.le_of_ble_eq_true rfl⟩ rfl hl.1 rfl (Nat.le_of_ble_eq_true rfl) d_L_275 hc0 (fun H locs hP1 hk1 hS => ?_)
  have hP := fr_r hP hD hk1 hP1
  have hP : va_P D cls (lwW q xa ad q2 xb ob cL sS sC fB gT cK 0 sC sS co ra rb rc im hf rz fM gU dK fo) H := hP
  refine lv_icmp_eq (tgt := 432) hx hb d_L_278 rfl (fun _ => ?_) (fun h => absurd rfl h)
  refine W.widen (k := cells + 1) (n := slots + 6) (by omega) (by omega) ?_
  exact kk H locs ls ⟨_, _, _, _, _, _, _, _, _, _, _, _, _, _, _, _, _, hP, hQ, hM, hTr, hG⟩ hS hl

set_option maxHeartbeats 4000000 in
set_option maxRecDepth 100000 in
theorem lc_tagged (C : LwC l p s m args c D A q xa ad q2 xb ob cL bs L xs) (hi : i + 6 ≤ L) (hcs : cells + 1 ≤ 601024 ∧ slots + 6 ≤ 7293034) (hI : LwI D q xa ad q2 xb ob cL H) (hS : va_S A s.heap H locs) (hl : lv_has ls 7 [(4, .int (nI i)), (3, .ref ob), (2, .ref (xb 0)), (1, .ref (xa 0)), (0, .ref bs)])
    (kk : ∀ (H : Heap) (locs : List Loc) (ls : Array Slot), LwI D q xa ad q2 xb ob cL H → va_S A s.heap H locs → lv_has ls 7 [(4, .int (nI i)), (3, .ref ob), (2, .ref (xb 0)), (1, .ref (xa 0)), (0, .ref bs)] → W p l e room_1 s m args below meth c H locs (cells + 1) (slots + 6) Q (F0 m 432 ls [])) : W p l e room_1 s m args below meth c H locs cells slots Q (F0 m 407 ls []) := by
  obtain ⟨hla, S, hX, hbl, hAs, hL, hK, hKR, hKL, hN, hT, hD0⟩ := C
  obtain ⟨sS, sC, fB, gT, cK, th, co, ra, rb, rc, im, hf, rz, fM, gU, dK, fo, hP, hQ, hM, hTr, hG⟩ := hI
  have hx := S.1
  have hb := S.2.1
  have hbA := hAs bs hbl
  have hc0 : cells ≤ 601024 ∧ slots ≤ 7293034 := ⟨by omega, by omega⟩
  have hH : ∀ (q : Nat) (c : Cell), s.heap[q]? = some c → H[q]? = some c := fun q c h => by
    have hlt := (Array.getElem?_eq_some_iff.mp h).1
    rw [hS.2.1 q hlt (hAs q hlt)]
    exact h
  have hD : va_D A (lwW q xa ad q2 xb ob cL sS sC fB gT cK th sC sS co ra rb rc im hf rz fM gU dK fo) := D_map hD0 rfl
  refine lv_aload_n hx hb d_L_407 rfl (lv_at hl 3 rfl) ?_
  refine sc_ld 1 S hl (fun h => lv_at h 4 rfl) (fun h => lv_at h 0 rfl) hX hbl hbA hS (by omega) hL (by decide) d_L_408 d_L_409 d_L_411 d_L_412 d_L_413 ?_
  refine c_pV [] S (c_M_tagged l D q xa ad sS sC fB gT cK (xs (i + 1))) mf_M_tagged ml_L_65 hK hN (P_l hP) 0 2 rfl rfl ⟨rfl, rfl, Nat.le_of_ble_eq_true rfl, Nat.le_of_ble_eq_true rfl⟩ rfl hl.1 rfl (Nat.le_of_ble_eq_true rfl) d_L_414 hc0 ?_
  refine lv_aload_n hx hb d_L_417 rfl (lv_at hl 2 rfl) ?_
  refine sc_ld 1 S hl (fun h => lv_at h 4 rfl) (fun h => lv_at h 0 rfl) hX hbl hbA hS (by omega) hL (by decide) d_L_418 d_L_419 d_L_421 d_L_422 d_L_423 ?_
  refine c_iA [.int (b2i (f_M_tagged gT (xs (i + 1))))] S (c_R_tagged l D q2 xb th sC sS co ra rb rc im hf rz fM gU dK (Ain (rW q2 xb th sC sS co ra rb rc im hf rz fM gU dK)) (D_in (D_l (D_rot hD))) (xs (i + 1))) mf_R_tagged ml_L_69 hKR hN (P_l (P_rot hP)) hS (A_sub (D_l (D_rot hD))) 0 3 rfl rfl ⟨rfl, rfl, Nat.le_of_ble_eq_true rfl, Nat.le_of_ble_eq_true rfl⟩ rfl hl.1 rfl (Nat.le_of_ble_eq_true rfl) d_L_424 hc0 (fun H locs hP1 hk1 hS => ?_)
  have hP := fr_r hP hD hk1 hP1
  have hP : va_P D cls (lwW q xa ad q2 xb ob cL sS sC fB gT cK 0 sC sS co ra rb rc im hf rz fM gU dK fo) H := hP
  refine lv_icmp_eq (tgt := 432) hx hb d_L_427 rfl (fun _ => ?_) (fun h => absurd (congrArg b2i (eq_tagged hTr (xs (i + 1))).symm) h)
  refine W.widen (k := cells + 1) (n := slots + 6) (by omega) (by omega) ?_
  exact kk H locs ls ⟨_, _, _, _, _, _, _, _, _, _, _, _, _, _, _, _, _, hP, hQ, hM, hTr, hG⟩ hS hl

end LwCases
