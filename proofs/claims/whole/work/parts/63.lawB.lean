section LwCases
variable {p : Program} {l : Launch} {e : Env} {s : State} {m : MethodId} {args : Array Value} {below : List Frame} {meth : Method} {c : Code} {H : Heap} {locs : List Loc} {cells slots : Nat} {Q : State → Prop} {ls : Array Slot} {D : va_G} {A : Nat → Prop}
variable {q q2 : Nat → ClassId} {xa ad xb : Nat → Nat} {ob : Nat} {cL : ClassId} {bs L i : Nat} {xs : Nat → Int32}
set_option maxHeartbeats 4000000 in
set_option maxRecDepth 100000 in
theorem lc_grant (C : LwC l p s m args c D A q xa ad q2 xb ob cL bs L xs) (hi : i + 6 ≤ L) (hcs : cells + 1 ≤ 601024 ∧ slots + 6 ≤ 7293034) (hI : LwI D q xa ad q2 xb ob cL H) (hS : va_S A s.heap H locs) (hl : lv_has ls 7 [(4, .int (nI i)), (3, .ref ob), (2, .ref (xb 0)), (1, .ref (xa 0)), (0, .ref bs)])
    (kk : ∀ (H : Heap) (locs : List Loc) (ls : Array Slot), LwI D q xa ad q2 xb ob cL H → va_S A s.heap H locs → lv_has ls 7 [(4, .int (nI i)), (3, .ref ob), (2, .ref (xb 0)), (1, .ref (xa 0)), (0, .ref bs)] → W p l e room_1 s m args below meth c H locs (cells + 1) (slots + 6) Q (F0 m 432 ls [])) : W p l e room_1 s m args below meth c H locs cells slots Q (F0 m 88 ls []) := by
  obtain ⟨hla, S, hX, hbl, hAs, hL, hK, hKR, hKL, hN, hT, hD0⟩ := C
  obtain ⟨sS, sC, fB, gT, cK, th, co, ra, rb, rc, im, hf, rz, fM, gU, dK, fo, hP, hQ, hM, hTr, hG⟩ := hI
  have hx := S.1
  have hb := S.2.1
  have hbA := hAs bs hbl
  have hc0 : cells ≤ 601024 ∧ slots ≤ 7293034 := ⟨by omega, by omega⟩
  have hH : ∀ (q : Nat) (c : Cell), s.heap[q]? = some c → H[q]? = some c := fun q c h => by
    have hlt := (Array.getElem?_eq_some_iff.mp h).1
    rw [hS.2.1 q hlt (hAs q hlt)]
    exact h
  have hD : va_D A (lwW q xa ad q2 xb ob cL sS sC fB gT cK th sC sS co ra rb rc im hf rz fM gU dK fo) := D_map hD0 rfl
  refine lv_aload_n hx hb d_L_88 rfl (lv_at hl 3 rfl) ?_
  refine sc_ld 1 S hl (fun h => lv_at h 4 rfl) (fun h => lv_at h 0 rfl) hX hbl hbA hS (by omega) hL (by decide) d_L_89 d_L_90 d_L_92 d_L_93 d_L_94 ?_
  refine sc_ld 2 S hl (fun h => lv_at h 4 rfl) (fun h => lv_at h 0 rfl) hX hbl hbA hS (by omega) hL (by decide) d_L_95 d_L_96 d_L_98 d_L_99 d_L_100 ?_
  refine sc_ld 3 S hl (fun h => lv_at h 4 rfl) (fun h => lv_at h 0 rfl) hX hbl hbA hS (by omega) hL (by decide) d_L_101 d_L_102 d_L_104 d_L_105 d_L_106 ?_
  refine sc_ld 4 S hl (fun h => lv_at h 4 rfl) (fun h => lv_at h 0 rfl) hX hbl hbA hS (by omega) hL (by decide) d_L_107 d_L_108 d_L_110 d_L_111 d_L_112 ?_
  refine sc_ld 5 S hl (fun h => lv_at h 4 rfl) (fun h => lv_at h 0 rfl) hX hbl hbA hS (by omega) hL (by decide) d_L_113 d_L_114 d_L_116 d_L_117 d_L_118 ?_
  have cM := c_L_grant l hla D q xa ad sS sC fB gT cK (Ain (mW q xa ad sS sC fB gT cK)) (D_in (D_l hD)) (xs (i + 1)) (xs (i + 2)) (xs (i + 3)) (xs (i + 4)) (xs (i + 5))
  have cR := fun (hR : va_D (Ain (rW q2 xb th sC sS co ra rb rc im hf rz fM gU dK)) (rW q2 xb th sC sS co ra rb rc im hf rz fM gU dK)) => c_R_grant l D q2 xb th sC sS co ra rb rc im hf rz fM gU dK (Ain (rW q2 xb th sC sS co ra rb rc im hf rz fM gU dK)) hR (xs (i + 1)) (xs (i + 2)) (xs (i + 3)) (xs (i + 4)) (xs (i + 5))
  have eq := eq_grant hQ hG sS (xs (i + 1)) (xs (i + 2)) (xs (i + 3)) (xs (i + 4)) (xs (i + 5))
  generalize f_M_grant sS cK (xs (i + 1)) (xs (i + 2)) (xs (i + 3)) (xs (i + 4)) (xs (i + 5)) = MM at cM eq
  generalize f_R_grant sS dK (xs (i + 1)) (xs (i + 2)) (xs (i + 3)) (xs (i + 4)) (xs (i + 5)) = RR at cR eq
  obtain ⟨m1, m2, m3⟩ := MM
  obtain ⟨r1, r2, r3⟩ := RR
  obtain ⟨e1, e2, hQ9, hG9⟩ := eq
  have e1 : r1 = (if m1 = true then (0 : Int32) else 1) := e1
  have e2 : r2 = m2 := e2
  subst e2
  refine c_wS [] S cM cw_L_grant in_L mw_L_grant.1 mw_L_grant.2 ml_L_31 hK hN (P_l hP) hT hH hS (A_sub (D_l hD)) ⟨rfl, rfl, Nat.le_of_ble_eq_true rfl, Nat.le_of_ble_eq_true rfl⟩ rfl hl.1 rfl (Nat.le_of_ble_eq_true rfl) d_L_119 ⟨hcs.1, hcs.2⟩ (fun H locs hP1 _ hk1 hS => ?_)
  have hP := fr_a hP hD hk1 hP1
  have hP : va_P D cls (lwW q xa ad q2 xb ob cL r2 sC fB gT m3 th sC sS co ra rb rc im hf rz fM gU dK fo) H := hP
  have hD : va_D A (lwW q xa ad q2 xb ob cL r2 sC fB gT m3 th sC sS co ra rb rc im hf rz fM gU dK fo) := D_map hD0 rfl
  refine lv_istore (lv' := [(5, .int (if m1 = true then (0 : Int32) else 1)), (4, .int (nI i)), (3, .ref ob), (2, .ref (xb 0)), (1, .ref (xa 0)), (0, .ref bs)]) hx hb d_L_122 hl (by decide) rfl (fun ls hl => ?_)
  refine lv_aload_n hx hb d_L_124 rfl (lv_at hl 3 rfl) ?_
  refine sc_ld 1 S hl (fun h => lv_at h 5 rfl) (fun h => lv_at h 1 rfl) hX hbl hbA hS (by omega) hL (by decide) d_L_125 d_L_126 d_L_128 d_L_129 d_L_130 ?_
  refine sc_ld 2 S hl (fun h => lv_at h 5 rfl) (fun h => lv_at h 1 rfl) hX hbl hbA hS (by omega) hL (by decide) d_L_131 d_L_132 d_L_134 d_L_135 d_L_136 ?_
  refine sc_ld 3 S hl (fun h => lv_at h 5 rfl) (fun h => lv_at h 1 rfl) hX hbl hbA hS (by omega) hL (by decide) d_L_137 d_L_138 d_L_140 d_L_141 d_L_142 ?_
  refine sc_ld 4 S hl (fun h => lv_at h 5 rfl) (fun h => lv_at h 1 rfl) hX hbl hbA hS (by omega) hL (by decide) d_L_143 d_L_144 d_L_146 d_L_147 d_L_148 ?_
  refine sc_ld 5 S hl (fun h => lv_at h 5 rfl) (fun h => lv_at h 1 rfl) hX hbl hbA hS (by omega) hL (by decide) d_L_149 d_L_150 d_L_152 d_L_153 d_L_154 ?_
  refine c_vA [] S (cR (D_in (D_l (D_rot hD)))) mf_R_grant ml_L_36 hKR hN (P_l (P_rot hP)) hS (A_sub (D_l (D_rot hD))) 0 3 rfl rfl ⟨rfl, rfl, Nat.le_of_ble_eq_true rfl, Nat.le_of_ble_eq_true rfl⟩ rfl hl.1 rfl (Nat.le_of_ble_eq_true rfl) d_L_155 ⟨hcs.1, hcs.2⟩ (fun H locs hP1 hk1 hS => ?_)
  have hP := fr_r hP hD hk1 hP1
  have hP : va_P D cls (lwW q xa ad q2 xb ob cL r2 sC fB gT m3 r1 sC r2 co ra rb rc im hf rz fM gU r3 fo) H := hP
  refine lv_aload_n hx hb d_L_158 rfl (lv_at hl 3 rfl) ?_
  refine c_pV [] S (c_R_thrown l D q2 xb r1 sC r2 co ra rb rc im hf rz fM gU r3) mf_R_thrown ml_L_37 hKR hN (P_l (P_rot hP)) 0 3 rfl rfl ⟨rfl, rfl, Nat.le_of_ble_eq_true rfl, Nat.le_of_ble_eq_true rfl⟩ rfl hl.1 rfl (Nat.le_of_ble_eq_true rfl) d_L_159 ⟨hcs.1, hcs.2⟩ ?_
  refine lv_iload hx hb d_L_162 (lv_at hl 0 rfl) ?_
  refine lv_icmp_eq (tgt := 169) hx hb d_L_164 rfl (fun _ => ?_) (fun h => absurd e1 h)
  refine lv_goto (tgt := 432) hx hb d_L_169 rfl ?_
  exact kk H locs ls ⟨_, _, _, _, _, _, _, _, _, _, _, _, _, _, _, _, _, hP, hQ9, hM, hTr, hG9⟩ hS (lv_sub hl [1, 2, 3, 4, 5] rfl)

set_option maxHeartbeats 4000000 in
set_option maxRecDepth 100000 in
theorem lc_poke (C : LwC l p s m args c D A q xa ad q2 xb ob cL bs L xs) (hi : i + 6 ≤ L) (hcs : cells + 1 ≤ 601024 ∧ slots + 6 ≤ 7293034) (hI : LwI D q xa ad q2 xb ob cL H) (hS : va_S A s.heap H locs) (hl : lv_has ls 7 [(4, .int (nI i)), (3, .ref ob), (2, .ref (xb 0)), (1, .ref (xa 0)), (0, .ref bs)])
    (kk : ∀ (H : Heap) (locs : List Loc) (ls : Array Slot), LwI D q xa ad q2 xb ob cL H → va_S A s.heap H locs → lv_has ls 7 [(4, .int (nI i)), (3, .ref ob), (2, .ref (xb 0)), (1, .ref (xa 0)), (0, .ref bs)] → W p l e room_1 s m args below meth c H locs (cells + 1) (slots + 6) Q (F0 m 432 ls [])) : W p l e room_1 s m args below meth c H locs cells slots Q (F0 m 172 ls []) := by
  obtain ⟨hla, S, hX, hbl, hAs, hL, hK, hKR, hKL, hN, hT, hD0⟩ := C
  obtain ⟨sS, sC, fB, gT, cK, th, co, ra, rb, rc, im, hf, rz, fM, gU, dK, fo, hP, hQ, hM, hTr, hG⟩ := hI
  have hx := S.1
  have hb := S.2.1
  have hbA := hAs bs hbl
  have hc0 : cells ≤ 601024 ∧ slots ≤ 7293034 := ⟨by omega, by omega⟩
  have hH : ∀ (q : Nat) (c : Cell), s.heap[q]? = some c → H[q]? = some c := fun q c h => by
    have hlt := (Array.getElem?_eq_some_iff.mp h).1
    rw [hS.2.1 q hlt (hAs q hlt)]
    exact h
  have hD : va_D A (lwW q xa ad q2 xb ob cL sS sC fB gT cK th sC sS co ra rb rc im hf rz fM gU dK fo) := D_map hD0 rfl
  refine lv_aload_n hx hb d_L_172 rfl (lv_at hl 3 rfl) ?_
  refine sc_ld 1 S hl (fun h => lv_at h 4 rfl) (fun h => lv_at h 0 rfl) hX hbl hbA hS (by omega) hL (by decide) d_L_173 d_L_174 d_L_176 d_L_177 d_L_178 ?_
  refine sc_ld 2 S hl (fun h => lv_at h 4 rfl) (fun h => lv_at h 0 rfl) hX hbl hbA hS (by omega) hL (by decide) d_L_179 d_L_180 d_L_182 d_L_183 d_L_184 ?_
  refine sc_ld 3 S hl (fun h => lv_at h 4 rfl) (fun h => lv_at h 0 rfl) hX hbl hbA hS (by omega) hL (by decide) d_L_185 d_L_186 d_L_188 d_L_189 d_L_190 ?_
  have cM := c_L_poke l hla D q xa ad sS sC fB gT cK (Ain (mW q xa ad sS sC fB gT cK)) (D_in (D_l hD)) (xs (i + 1)) (xs (i + 2)) (xs (i + 3))
  have cR := fun (hR : va_D (Ain (rW q2 xb th sC sS co ra rb rc im hf rz fM gU dK)) (rW q2 xb th sC sS co ra rb rc im hf rz fM gU dK)) => c_R_poke l D q2 xb th sC sS co ra rb rc im hf rz fM gU dK (Ain (rW q2 xb th sC sS co ra rb rc im hf rz fM gU dK)) hR (xs (i + 1)) (xs (i + 2)) (xs (i + 3))
  have eq := eq_poke hM hTr (xs (i + 1)) (xs (i + 2)) (xs (i + 3))
  generalize f_M_poke fB gT (xs (i + 1)) (xs (i + 2)) (xs (i + 3)) = MM at cM eq
  generalize f_R_poke fM gU (xs (i + 1)) (xs (i + 2)) (xs (i + 3)) = RR at cR eq
  obtain ⟨m1, m2, m3⟩ := MM
  obtain ⟨r1, r2, r3⟩ := RR
  obtain ⟨e1, hM9, hT9⟩ := eq
  have e1 : r1 = (if m1 = true then (0 : Int32) else 1) := e1
  refine c_wS [] S cM cw_L_poke in_L mw_L_poke.1 mw_L_poke.2 ml_L_41 hK hN (P_l hP) hT hH hS (A_sub (D_l hD)) ⟨rfl, rfl, Nat.le_of_ble_eq_true rfl, Nat.le_of_ble_eq_true rfl⟩ rfl hl.1 rfl (Nat.le_of_ble_eq_true rfl) d_L_191 ⟨hcs.1, hcs.2⟩ (fun H locs hP1 _ hk1 hS => ?_)
  have hP := fr_a hP hD hk1 hP1
  have hP : va_P D cls (lwW q xa ad q2 xb ob cL sS sC m2 m3 cK th sC sS co ra rb rc im hf rz fM gU dK fo) H := hP
  have hD : va_D A (lwW q xa ad q2 xb ob cL sS sC m2 m3 cK th sC sS co ra rb rc im hf rz fM gU dK fo) := D_map hD0 rfl
  refine lv_istore (lv' := [(5, .int (if m1 = true then (0 : Int32) else 1)), (4, .int (nI i)), (3, .ref ob), (2, .ref (xb 0)), (1, .ref (xa 0)), (0, .ref bs)]) hx hb d_L_194 hl (by decide) rfl (fun ls hl => ?_)
  refine lv_aload_n hx hb d_L_196 rfl (lv_at hl 3 rfl) ?_
  refine sc_ld 1 S hl (fun h => lv_at h 5 rfl) (fun h => lv_at h 1 rfl) hX hbl hbA hS (by omega) hL (by decide) d_L_197 d_L_198 d_L_200 d_L_201 d_L_202 ?_
  refine sc_ld 2 S hl (fun h => lv_at h 5 rfl) (fun h => lv_at h 1 rfl) hX hbl hbA hS (by omega) hL (by decide) d_L_203 d_L_204 d_L_206 d_L_207 d_L_208 ?_
  refine sc_ld 3 S hl (fun h => lv_at h 5 rfl) (fun h => lv_at h 1 rfl) hX hbl hbA hS (by omega) hL (by decide) d_L_209 d_L_210 d_L_212 d_L_213 d_L_214 ?_
  refine c_vA [] S (cR (D_in (D_l (D_rot hD)))) mf_R_poke ml_L_44 hKR hN (P_l (P_rot hP)) hS (A_sub (D_l (D_rot hD))) 0 3 rfl rfl ⟨rfl, rfl, Nat.le_of_ble_eq_true rfl, Nat.le_of_ble_eq_true rfl⟩ rfl hl.1 rfl (Nat.le_of_ble_eq_true rfl) d_L_215 ⟨hcs.1, hcs.2⟩ (fun H locs hP1 hk1 hS => ?_)
  have hP := fr_r hP hD hk1 hP1
  have hP : va_P D cls (lwW q xa ad q2 xb ob cL sS sC m2 m3 cK r1 sC sS co ra rb rc im hf rz r2 r3 dK fo) H := hP
  refine lv_aload_n hx hb d_L_218 rfl (lv_at hl 3 rfl) ?_
  refine c_pV [] S (c_R_thrown l D q2 xb r1 sC sS co ra rb rc im hf rz r2 r3 dK) mf_R_thrown ml_L_37 hKR hN (P_l (P_rot hP)) 0 3 rfl rfl ⟨rfl, rfl, Nat.le_of_ble_eq_true rfl, Nat.le_of_ble_eq_true rfl⟩ rfl hl.1 rfl (Nat.le_of_ble_eq_true rfl) d_L_219 ⟨hcs.1, hcs.2⟩ ?_
  refine lv_iload hx hb d_L_222 (lv_at hl 0 rfl) ?_
  refine lv_icmp_eq (tgt := 229) hx hb d_L_224 rfl (fun _ => ?_) (fun h => absurd e1 h)
  refine lv_goto (tgt := 432) hx hb d_L_229 rfl ?_
  exact kk H locs ls ⟨_, _, _, _, _, _, _, _, _, _, _, _, _, _, _, _, _, hP, hQ, hM9, hT9, hG⟩ hS (lv_sub hl [1, 2, 3, 4, 5] rfl)

set_option maxHeartbeats 4000000 in
set_option maxRecDepth 100000 in
theorem lc_look (C : LwC l p s m args c D A q xa ad q2 xb ob cL bs L xs) (hi : i + 6 ≤ L) (hcs : cells + 1 ≤ 601024 ∧ slots + 6 ≤ 7293034) (hI : LwI D q xa ad q2 xb ob cL H) (hS : va_S A s.heap H locs) (hl : lv_has ls 7 [(4, .int (nI i)), (3, .ref ob), (2, .ref (xb 0)), (1, .ref (xa 0)), (0, .ref bs)])
    (kk : ∀ (H : Heap) (locs : List Loc) (ls : Array Slot), LwI D q xa ad q2 xb ob cL H → va_S A s.heap H locs → lv_has ls 7 [(4, .int (nI i)), (3, .ref ob), (2, .ref (xb 0)), (1, .ref (xa 0)), (0, .ref bs)] → W p l e room_1 s m args below meth c H locs (cells + 1) (slots + 6) Q (F0 m 432 ls [])) : W p l e room_1 s m args below meth c H locs cells slots Q (F0 m 283 ls []) := by
  obtain ⟨hla, S, hX, hbl, hAs, hL, hK, hKR, hKL, hN, hT, hD0⟩ := C
  obtain ⟨sS, sC, fB, gT, cK, th, co, ra, rb, rc, im, hf, rz, fM, gU, dK, fo, hP, hQ, hM, hTr, hG⟩ := hI
  have hx := S.1
  have hb := S.2.1
  have hbA := hAs bs hbl
  have hc0 : cells ≤ 601024 ∧ slots ≤ 7293034 := ⟨by omega, by omega⟩
  have hH : ∀ (q : Nat) (c : Cell), s.heap[q]? = some c → H[q]? = some c := fun q c h => by
    have hlt := (Array.getElem?_eq_some_iff.mp h).1
    rw [hS.2.1 q hlt (hAs q hlt)]
    exact h
  have hD : va_D A (lwW q xa ad q2 xb ob cL sS sC fB gT cK th sC sS co ra rb rc im hf rz fM gU dK fo) := D_map hD0 rfl
  refine lv_aload_n hx hb d_L_283 rfl (lv_at hl 3 rfl) ?_
  refine sc_ld 1 S hl (fun h => lv_at h 4 rfl) (fun h => lv_at h 0 rfl) hX hbl hbA hS (by omega) hL (by decide) d_L_284 d_L_285 d_L_287 d_L_288 d_L_289 ?_
  refine sc_ld 2 S hl (fun h => lv_at h 4 rfl) (fun h => lv_at h 0 rfl) hX hbl hbA hS (by omega) hL (by decide) d_L_290 d_L_291 d_L_293 d_L_294 d_L_295 ?_
  refine lv_aload_n hx hb d_L_296 rfl (lv_at hl 1 rfl) ?_
  have cM := c_L_look l hla D q xa ad sS sC fB gT cK ob cL fo (Ain (mW q xa ad sS sC fB gT cK ++ [(ob, .inl (cL, 1, .inr (.inl fo)))])) (D_in (D_l (D_o hD))) (xs (i + 1)) (xs (i + 2))
  have cR := fun (hR : va_D (Ain (rW q2 xb th sC sS co ra rb rc im hf rz fM gU dK)) (rW q2 xb th sC sS co ra rb rc im hf rz fM gU dK)) => c_R_look l D q2 xb th sC sS co ra rb rc im hf rz fM gU dK (Ain (rW q2 xb th sC sS co ra rb rc im hf rz fM gU dK)) hR (xs (i + 1)) (xs (i + 2))
  have eq := eq_look hQ (xs (i + 1)) (xs (i + 2))
  generalize f_M_look cK (xs (i + 1)) (xs (i + 2)) = MM at cM eq
  generalize f_R_look dK (xs (i + 1)) (xs (i + 2)) = RR at cR eq
  obtain ⟨m1, m2⟩ := MM
  obtain ⟨r1, r2⟩ := RR
  obtain ⟨e1, e2⟩ := eq
  have e1 : r2 = (if m1 = true then (0 : Int32) else 1) := e1
  have e2 : m1 = true → r1 = m2 := e2
  refine c_wS [] S cM cw_L_look in_L mw_L_look.1 mw_L_look.2 ml_L_57 (hK.app hKL) hN (P_l (P_o hP)) hT hH hS (A_sub (D_l (D_o hD))) ⟨rfl, rfl, Nat.le_of_ble_eq_true rfl, Nat.le_of_ble_eq_true rfl⟩ rfl hl.1 rfl (Nat.le_of_ble_eq_true rfl) d_L_297 ⟨hcs.1, hcs.2⟩ (fun H locs hP1 _ hk1 hS => ?_)
  have hP := fr_o hP hD hk1 hP1
  have hP : va_P D cls (lwW q xa ad q2 xb ob cL sS sC fB gT cK th sC sS co ra rb rc im hf rz fM gU dK (if m1 = true then vp_updL fo 0 m2.toInt64 else fo)) H := hP
  have hD : va_D A (lwW q xa ad q2 xb ob cL sS sC fB gT cK th sC sS co ra rb rc im hf rz fM gU dK (if m1 = true then vp_updL fo 0 m2.toInt64 else fo)) := D_map hD0 rfl
  refine lv_istore (lv' := [(5, .int (if m1 = true then (0 : Int32) else 1)), (4, .int (nI i)), (3, .ref ob), (2, .ref (xb 0)), (1, .ref (xa 0)), (0, .ref bs)]) hx hb d_L_300 hl (by decide) rfl (fun ls hl => ?_)
  refine lv_aload_n hx hb d_L_302 rfl (lv_at hl 3 rfl) ?_
  refine sc_ld 1 S hl (fun h => lv_at h 5 rfl) (fun h => lv_at h 1 rfl) hX hbl hbA hS (by omega) hL (by decide) d_L_303 d_L_304 d_L_306 d_L_307 d_L_308 ?_
  refine sc_ld 2 S hl (fun h => lv_at h 5 rfl) (fun h => lv_at h 1 rfl) hX hbl hbA hS (by omega) hL (by decide) d_L_309 d_L_310 d_L_312 d_L_313 d_L_314 ?_
  refine c_iA [] S (cR (D_in (D_l (D_rot hD)))) mf_R_look ml_L_60 hKR hN (P_l (P_rot hP)) hS (A_sub (D_l (D_rot hD))) 0 3 rfl rfl ⟨rfl, rfl, Nat.le_of_ble_eq_true rfl, Nat.le_of_ble_eq_true rfl⟩ rfl hl.1 rfl (Nat.le_of_ble_eq_true rfl) d_L_315 ⟨hcs.1, hcs.2⟩ (fun H locs hP1 hk1 hS => ?_)
  have hP := fr_r hP hD hk1 hP1
  have hP : va_P D cls (lwW q xa ad q2 xb ob cL sS sC fB gT cK r2 sC sS co ra rb rc im hf rz fM gU dK (if m1 = true then vp_updL fo 0 m2.toInt64 else fo)) H := hP
  refine lv_istore (lv' := [(6, .int r1), (5, .int (if m1 = true then (0 : Int32) else 1)), (4, .int (nI i)), (3, .ref ob), (2, .ref (xb 0)), (1, .ref (xa 0)), (0, .ref bs)]) hx hb d_L_318 hl (by decide) rfl (fun ls hl => ?_)
  refine lv_aload_n hx hb d_L_320 rfl (lv_at hl 4 rfl) ?_
  refine c_pV [] S (c_R_thrown l D q2 xb r2 sC sS co ra rb rc im hf rz fM gU dK) mf_R_thrown ml_L_37 hKR hN (P_l (P_rot hP)) 0 3 rfl rfl ⟨rfl, rfl, Nat.le_of_ble_eq_true rfl, Nat.le_of_ble_eq_true rfl⟩ rfl hl.1 rfl (Nat.le_of_ble_eq_true rfl) d_L_321 ⟨hcs.1, hcs.2⟩ ?_
  refine lv_iload hx hb d_L_324 (lv_at hl 1 rfl) ?_
  refine lv_icmp_eq (tgt := 331) hx hb d_L_326 rfl (fun _ => ?_) (fun h => absurd e1 h)
  refine lv_iload hx hb d_L_331 (lv_at hl 1 rfl) ?_
  refine lv_if_ne (tgt := 348) hx hb d_L_333 rfl (fun _ => ?_) (fun h0 => ?_)
  · refine lv_goto (tgt := 432) hx hb d_L_348 rfl ?_
    exact kk H locs ls ⟨_, _, _, _, _, _, _, _, _, _, _, _, _, _, _, _, _, hP, hQ, hM, hTr, hG⟩ hS (lv_sub hl [2, 3, 4, 5, 6] rfl)
  · have hm : m1 = true := by
      cases m1 with
      | true => rfl
      | false => exact absurd h0 (by decide)
    have e3 := e2 hm
    subst e3
    subst hm
    refine lv_aload_n hx hb d_L_336 rfl (lv_at hl 3 rfl) ?_
    refine lv_iconst (v := (0 : Int32)) hx hb d_L_337 (by decide) ?_
    refine va_lald hx hb hKL (P_r (P_r hP)) 0 0 rfl rfl (in_k rfl) d_L_338 ?_
    refine lv_iload hx hb d_L_339 (lv_at hl 0 rfl) ?_
    refine lv_i2l (v := r1.toInt64) hx hb d_L_341 rfl ?_
    refine W.lcmp hx hb d_L_342 ?_
    refine lv_if_eq (tgt := 348) hx hb d_L_343 rfl (fun _ => ?_) (fun h => absurd (lg_eq r1.toInt64) h)
    refine lv_goto (tgt := 432) hx hb d_L_348 rfl ?_
    exact kk H locs ls ⟨_, _, _, _, _, _, _, _, _, _, _, _, _, _, _, _, _, hP, hQ, hM, hTr, hG⟩ hS (lv_sub hl [2, 3, 4, 5, 6] rfl)

set_option maxHeartbeats 4000000 in
set_option maxRecDepth 100000 in
theorem lc_peek (C : LwC l p s m args c D A q xa ad q2 xb ob cL bs L xs) (hi : i + 6 ≤ L) (hcs : cells + 1 ≤ 601024 ∧ slots + 6 ≤ 7293034) (hI : LwI D q xa ad q2 xb ob cL H) (hS : va_S A s.heap H locs) (hl : lv_has ls 7 [(4, .int (nI i)), (3, .ref ob), (2, .ref (xb 0)), (1, .ref (xa 0)), (0, .ref bs)])
    (kk : ∀ (H : Heap) (locs : List Loc) (ls : Array Slot), LwI D q xa ad q2 xb ob cL H → va_S A s.heap H locs → lv_has ls 7 [(4, .int (nI i)), (3, .ref ob), (2, .ref (xb 0)), (1, .ref (xa 0)), (0, .ref bs)] → W p l e room_1 s m args below meth c H locs (cells + 1) (slots + 6) Q (F0 m 432 ls [])) : W p l e room_1 s m args below meth c H locs cells slots Q (F0 m 351 ls []) := by
  obtain ⟨hla, S, hX, hbl, hAs, hL, hK, hKR, hKL, hN, hT, hD0⟩ := C
  obtain ⟨sS, sC, fB, gT, cK, th, co, ra, rb, rc, im, hf, rz, fM, gU, dK, fo, hP, hQ, hM, hTr, hG⟩ := hI
  have hx := S.1
  have hb := S.2.1
  have hbA := hAs bs hbl
  have hc0 : cells ≤ 601024 ∧ slots ≤ 7293034 := ⟨by omega, by omega⟩
  have hH : ∀ (q : Nat) (c : Cell), s.heap[q]? = some c → H[q]? = some c := fun q c h => by
    have hlt := (Array.getElem?_eq_some_iff.mp h).1
    rw [hS.2.1 q hlt (hAs q hlt)]
    exact h
  have hD : va_D A (lwW q xa ad q2 xb ob cL sS sC fB gT cK th sC sS co ra rb rc im hf rz fM gU dK fo) := D_map hD0 rfl
  refine lv_aload_n hx hb d_L_351 rfl (lv_at hl 3 rfl) ?_
  refine sc_ld 1 S hl (fun h => lv_at h 4 rfl) (fun h => lv_at h 0 rfl) hX hbl hbA hS (by omega) hL (by decide) d_L_352 d_L_353 d_L_355 d_L_356 d_L_357 ?_
  refine lv_aload_n hx hb d_L_358 rfl (lv_at hl 1 rfl) ?_
  have cM := c_L_peek l hla D q xa ad sS sC fB gT cK ob cL fo (Ain (mW q xa ad sS sC fB gT cK ++ [(ob, .inl (cL, 1, .inr (.inl fo)))])) (D_in (D_l (D_o hD))) (xs (i + 1))
  have cR := fun (hR : va_D (Ain (rW q2 xb th sC sS co ra rb rc im hf rz fM gU dK)) (rW q2 xb th sC sS co ra rb rc im hf rz fM gU dK)) => c_R_peek l D q2 xb th sC sS co ra rb rc im hf rz fM gU dK (Ain (rW q2 xb th sC sS co ra rb rc im hf rz fM gU dK)) hR (xs (i + 1))
  have eq := eq_peek hM (xs (i + 1))
  generalize f_M_peek fB (xs (i + 1)) = MM at cM eq
  generalize f_R_peek fM (xs (i + 1)) = RR at cR eq
  obtain ⟨m1, m2⟩ := MM
  obtain ⟨r1, r2⟩ := RR
  obtain ⟨e1, e2⟩ := eq
  have e1 : r2 = (if m1 = true then (0 : Int32) else 1) := e1
  have e2 : m1 = true → r1 = m2 := e2
  refine c_wS [] S cM cw_L_peek in_L mw_L_peek.1 mw_L_peek.2 ml_L_61 (hK.app hKL) hN (P_l (P_o hP)) hT hH hS (A_sub (D_l (D_o hD))) ⟨rfl, rfl, Nat.le_of_ble_eq_true rfl, Nat.le_of_ble_eq_true rfl⟩ rfl hl.1 rfl (Nat.le_of_ble_eq_true rfl) d_L_359 ⟨hcs.1, hcs.2⟩ (fun H locs hP1 _ hk1 hS => ?_)
  have hP := fr_o hP hD hk1 hP1
  have hP : va_P D cls (lwW q xa ad q2 xb ob cL sS sC fB gT cK th sC sS co ra rb rc im hf rz fM gU dK (if m1 = true then vp_updL fo 0 m2.toInt64 else fo)) H := hP
  have hD : va_D A (lwW q xa ad q2 xb ob cL sS sC fB gT cK th sC sS co ra rb rc im hf rz fM gU dK (if m1 = true then vp_updL fo 0 m2.toInt64 else fo)) := D_map hD0 rfl
  refine lv_istore (lv' := [(5, .int (if m1 = true then (0 : Int32) else 1)), (4, .int (nI i)), (3, .ref ob), (2, .ref (xb 0)), (1, .ref (xa 0)), (0, .ref bs)]) hx hb d_L_362 hl (by decide) rfl (fun ls hl => ?_)
  refine lv_aload_n hx hb d_L_364 rfl (lv_at hl 3 rfl) ?_
  refine sc_ld 1 S hl (fun h => lv_at h 5 rfl) (fun h => lv_at h 1 rfl) hX hbl hbA hS (by omega) hL (by decide) d_L_365 d_L_366 d_L_368 d_L_369 d_L_370 ?_
  refine c_iA [] S (cR (D_in (D_l (D_rot hD)))) mf_R_peek ml_L_64 hKR hN (P_l (P_rot hP)) hS (A_sub (D_l (D_rot hD))) 0 3 rfl rfl ⟨rfl, rfl, Nat.le_of_ble_eq_true rfl, Nat.le_of_ble_eq_true rfl⟩ rfl hl.1 rfl (Nat.le_of_ble_eq_true rfl) d_L_371 ⟨hcs.1, hcs.2⟩ (fun H locs hP1 hk1 hS => ?_)
  have hP := fr_r hP hD hk1 hP1
  have hP : va_P D cls (lwW q xa ad q2 xb ob cL sS sC fB gT cK r2 sC sS co ra rb rc im hf rz fM gU dK (if m1 = true then vp_updL fo 0 m2.toInt64 else fo)) H := hP
  refine lv_istore (lv' := [(6, .int r1), (5, .int (if m1 = true then (0 : Int32) else 1)), (4, .int (nI i)), (3, .ref ob), (2, .ref (xb 0)), (1, .ref (xa 0)), (0, .ref bs)]) hx hb d_L_374 hl (by decide) rfl (fun ls hl => ?_)
  refine lv_aload_n hx hb d_L_376 rfl (lv_at hl 4 rfl) ?_
  refine c_pV [] S (c_R_thrown l D q2 xb r2 sC sS co ra rb rc im hf rz fM gU dK) mf_R_thrown ml_L_37 hKR hN (P_l (P_rot hP)) 0 3 rfl rfl ⟨rfl, rfl, Nat.le_of_ble_eq_true rfl, Nat.le_of_ble_eq_true rfl⟩ rfl hl.1 rfl (Nat.le_of_ble_eq_true rfl) d_L_377 ⟨hcs.1, hcs.2⟩ ?_
  refine lv_iload hx hb d_L_380 (lv_at hl 1 rfl) ?_
  refine lv_icmp_eq (tgt := 387) hx hb d_L_382 rfl (fun _ => ?_) (fun h => absurd e1 h)
  refine lv_iload hx hb d_L_387 (lv_at hl 1 rfl) ?_
  refine lv_if_ne (tgt := 404) hx hb d_L_389 rfl (fun _ => ?_) (fun h0 => ?_)
  · refine lv_goto (tgt := 432) hx hb d_L_404 rfl ?_
    exact kk H locs ls ⟨_, _, _, _, _, _, _, _, _, _, _, _, _, _, _, _, _, hP, hQ, hM, hTr, hG⟩ hS (lv_sub hl [2, 3, 4, 5, 6] rfl)
  · have hm : m1 = true := by
      cases m1 with
      | true => rfl
      | false => exact absurd h0 (by decide)
    have e3 := e2 hm
    subst e3
    subst hm
    refine lv_aload_n hx hb d_L_392 rfl (lv_at hl 3 rfl) ?_
    refine lv_iconst (v := (0 : Int32)) hx hb d_L_393 (by decide) ?_
    refine va_lald hx hb hKL (P_r (P_r hP)) 0 0 rfl rfl (in_k rfl) d_L_394 ?_
    refine lv_iload hx hb d_L_395 (lv_at hl 0 rfl) ?_
    refine lv_i2l (v := r1.toInt64) hx hb d_L_397 rfl ?_
    refine W.lcmp hx hb d_L_398 ?_
    refine lv_if_eq (tgt := 404) hx hb d_L_399 rfl (fun _ => ?_) (fun h => absurd (lg_eq r1.toInt64) h)
    refine lv_goto (tgt := 432) hx hb d_L_404 rfl ?_
    exact kk H locs ls ⟨_, _, _, _, _, _, _, _, _, _, _, _, _, _, _, _, _, hP, hQ, hM, hTr, hG⟩ hS (lv_sub hl [2, 3, 4, 5, 6] rfl)

end LwCases
