section Whole
variable {fB fM : Nat → Int32} {gT gU : Nat → Bool} {c d : Nat → Cp}
theorem te_q (hQ : Qr c d) (hG : Gr c) : k_v ((f_R_copy d 8 10) ((9 : Int32).toNatClampNeg)) = k_v ((f_K_become c 10 8) 9) ∧ Qr (f_K_become c 10 8) (f_R_copy d 8 10) ∧ Gr (f_K_become c 10 8) ∧ Qr (f_K_become (f_K_become c 10 8) 8 9) (f_R_copy (f_R_copy d 8 10) 9 8) ∧ Gr (f_K_become (f_K_become c 10 8) 8 9) := by
  have e : f_R_copy d 8 10 = va_up d 10 (d 8) := by rw [rf_copy d (r0 := 8) (r1 := 10) (by decide), n8, n10]
  have e2 : f_R_copy (f_R_copy d 8 10) 9 8 = va_up (va_up d 10 (d 8)) 8 ((va_up d 10 (d 8)) 9) := by rw [rf_copy _ (r0 := 9) (r1 := 8) (by decide), n8, n9, e]
  rw [e2, e, cf_become, cf_become, n9, ← hQ 8 (by decide)]
  have q1 : Qr (va_up c 10 (c 8)) (va_up d 10 (c 8)) := hQ.up _ _
  have g1 : Gr (va_up c 10 (c 8)) := hG.up (hG 8 (by decide))
  have q9 := q1 9 (by decide)
  rw [← q9]
  exact ⟨rfl, q1, g1, q1.up _ _, g1.up (g1 9 (by decide))⟩
/-- what is claimed of a step -/
def StQ (sS sC : Int32) (gT' : Nat → Bool) (R : Int32 × Int32 × (Nat → Int32) × (Nat → Bool) × (Nat → Cp)) (Z : Int32 × Int32 × Int32 × Int32 × Int32 × Int32 × Int32 × Int32 × Bool × (Nat → Int32) × (Nat → Bool) × (Nat → Cp)) : Prop :=
  Mr R.2.2.1 Z.2.2.2.2.2.2.2.2.2.1 ∧ Tr R.2.2.2.1 Z.2.2.2.2.2.2.2.2.2.2.1 ∧
  ((R.1 = 0 ∧ Z.2.2.2.2.2.2.2.2.1 = false ∧ Z.2.1 = R.2.1 ∧ Z.1 = sC ∧ Qr R.2.2.2.2 Z.2.2.2.2.2.2.2.2.2.2.2 ∧ Gr R.2.2.2.2) ∨
   (¬ R.1 = 0 ∧ Z.2.2.2.2.2.2.2.2.1 = true ∧ Z.2.1 = (f_M_takeException R.2.1 R.2.2.2.2 R.1).1 ∧ Z.1 = (f_M_takeException R.2.1 R.2.2.2.2 R.1).2.1 ∧ Qr (f_M_takeException R.2.1 R.2.2.2.2 R.1).2.2 Z.2.2.2.2.2.2.2.2.2.2.2 ∧ Gr (f_M_takeException R.2.1 R.2.2.2.2 R.1).2.2))
theorem sq_no {sS sC E co ra rb rc im hf : Int32} {R : Int32 × Int32 × (Nat → Int32) × (Nat → Bool) × (Nat → Cp)} {Z : Int32 × Int32 × Int32 × Int32 × Int32 × Int32 × Int32 × Int32 × Bool × (Nat → Int32) × (Nat → Bool) × (Nat → Cp)} (hQ : Qr c d) (hM : Mr fB fM) (hT : Tr gT gU) (hG : Gr c) (hE : ¬ E ≤ 0) (hR : R = (E, sS, fB, gT, c))
    (hZ : Z = if k_v ((f_R_copy d 8 10) ((9 : Int32).toNatClampNeg)) = true then (E, sS, co, ra, rb, rc, im, hf, true, fM, gU, f_R_copy (f_R_copy d 8 10) 9 8) else (E, 2, co, ra, rb, rc, im, hf, true, fM, gU, f_R_copy d 8 10)) : StQ sS sC gT R Z := by
  obtain ⟨t1, t2, t3, t4, t5⟩ := te_q hQ hG
  have h0 : ¬ E = 0 := fun z => hE (by rw [z]; decide)
  subst hR
  rw [t1] at hZ
  by_cases h : k_v ((f_K_become c 10 8) 9) = true
  · rw [if_pos h] at hZ
    have e : f_M_takeException sS c E = (sS, E, f_K_become (f_K_become c 10 8) 8 9) := if_pos h
    subst hZ
    refine ⟨hM, hT, Or.inr ⟨h0, rfl, ?_⟩⟩
    show sS = (f_M_takeException sS c E).1 ∧ E = (f_M_takeException sS c E).2.1 ∧ Qr (f_M_takeException sS c E).2.2 (f_R_copy (f_R_copy d 8 10) 9 8) ∧ Gr (f_M_takeException sS c E).2.2
    rw [e]
    exact ⟨rfl, rfl, t4, t5⟩
  · rw [if_neg h] at hZ
    have e : f_M_takeException sS c E = (2, E, f_K_become c 10 8) := if_neg h
    subst hZ
    refine ⟨hM, hT, Or.inr ⟨h0, rfl, ?_⟩⟩
    show 2 = (f_M_takeException sS c E).1 ∧ E = (f_M_takeException sS c E).2.1 ∧ Qr (f_M_takeException sS c E).2.2 (f_R_copy d 8 10) ∧ Gr (f_M_takeException sS c E).2.2
    rw [e]
    exact ⟨rfl, rfl, t2, t3⟩
theorem rs_no {sC sS co ra rb rc im hf v A B G iv hh : Int32} (hA : f_R_allow d 8 ((k_a (d ((8 : Int32).toNatClampNeg))).toInt64) 4 4 = 0) (ft : f_R_fetch fM (k_a (d ((8 : Int32).toNatClampNeg))) = (v, A, B, G, iv, hh)) (hE : ¬ f_R_exception v A B G iv d ≤ 0) :
    f_R_step sC sS co ra rb rc im hf fM gU d = if k_v ((f_R_copy d 8 10) ((9 : Int32).toNatClampNeg)) = true then (f_R_exception v A B G iv d, sS, v, A, B, G, iv, hh, true, fM, gU, f_R_copy (f_R_copy d 8 10) 9 8) else (f_R_exception v A B G iv d, 2, v, A, B, G, iv, hh, true, fM, gU, f_R_copy d 8 10) := by
  unfold f_R_step
  rw [if_pos hA, ft]
  simp only [if_neg hE, if_true]
theorem rs_ok {sC sS co ra rb rc im hf v A B G iv hh : Int32} (hA : f_R_allow d 8 ((k_a (d ((8 : Int32).toNatClampNeg))).toInt64) 4 4 = 0) (ft : f_R_fetch fM (k_a (d ((8 : Int32).toNatClampNeg))) = (v, A, B, G, iv, hh)) (hE : f_R_exception v A B G iv d = 0) :
    f_R_step sC sS co ra rb rc im hf fM gU d = if v = 0 then (sC, 1, v, A, B, G, iv, hh, false, fM, gU, d) else if v = 16 then (sC, sS, v, A, B, G, iv, hh, false, fM, gU, f_R_jump A B d) else (sC, sS, v, A, B, G, iv, hh, false, (f_R_doIt v A B G iv hh fM gU d).1, (f_R_doIt v A B G iv hh fM gU d).2.1, (f_R_doIt v A B G iv hh fM gU d).2.2) := by
  unfold f_R_step
  rw [if_pos hA, ft]
  have h1 : (0 : Int32) ≤ 0 := by decide
  simp only [hE, if_pos h1, if_neg Bool.false_ne_true]
theorem br_q (hQ : Qr c d) (hG : Gr c) {t u : Bool} (e : u = t) (iv : Int32) : Qr (f_M_branch c t iv).2 (f_R_move d 8 (k_a (d ((8 : Int32).toNatClampNeg)) + 4 + (if u = true then 4 * iv else 0))) ∧ Gr (f_M_branch c t iv).2 := by
  have q := mv_q hQ hG (k_a (c 8) + 4 + (if t = true then 4 * iv else 0))
  rw [e, n8, ← hQ 8 (by decide)]
  exact q
set_option maxHeartbeats 4000000 in
theorem st_sim (hQ : Qr c d) (hM : Mr fB fM) (hT : Tr gT gU) (hG : Gr c) (sS sC co ra rb rc im hf : Int32) : StQ sS sC gT (f_M_step sS fB gT c) (f_R_step sC sS co ra rb rc im hf fM gU d) := by
  have h8 := hQ 8 (by decide)
  have xl0 := Int32.le_toInt (k_a (c 8))
  have xl1 := Int32.toInt_lt (k_a (c 8))
  have q := al_rf (cK := c) (cK' := d) (i := 8) (r := 8) (nd := 4) (bt := 4) (xl := (k_a (c 8)).toInt64) (by rw [n8]; exact h8) (hG 8 (by decide)) (Or.inr (Or.inl rfl)) (by rw [Int32.toInt_toInt64]; omega) (by rw [Int32.toInt_toInt64]; omega)
  have qd : f_R_allow d 8 ((k_a (d ((8 : Int32).toNatClampNeg))).toInt64) 4 4 = f_K_refusal c 8 4 ((k_a (c 8)).toInt64) 4 := by rw [n8, ← h8]; exact q.symm
  by_cases h : f_K_refusal c 8 4 ((k_a (c 8)).toInt64) 4 = 0
  · have hA : Ar (k_a (c 8)) 4 := rf_pc h (hG 8 (by decide))
    have hALW := qd.trans h
    have hy : k_y (c 8) = 0 := by
      unfold f_K_refusal at h
      by_cases h1 : k_v (c 8) = true
      · rw [if_pos h1] at h
        by_cases h2 : k_y (c 8) = 0
        · exact h2
        · rw [if_neg h2] at h
          exact absurd h (by decide)
      · rw [if_neg h1] at h
        exact absurd h (by decide)
    have b0 := bt_eq hM (hA.i0 (by decide))
    have b1 := bt_eq hM (hA.i1 (by decide))
    have b2 := bt_eq hM (hA.i2 (by decide))
    have b3 := bt_eq hM (hA.i3 (by decide))
    obtain ⟨m0, r0, w0⟩ := b_of ⟨_, (hM _ (in_lt (hA.i0 (by decide)))).symm⟩
    obtain ⟨m1, r1, w1⟩ := b_of ⟨_, (hM _ (in_lt (hA.i1 (by decide)))).symm⟩
    obtain ⟨m2, r2, w2⟩ := b_of ⟨_, (hM _ (in_lt (hA.i2 (by decide)))).symm⟩
    obtain ⟨m3, r3, w3⟩ := b_of ⟨_, (hM _ (in_lt (hA.i3 (by decide)))).symm⟩
    have ft : f_R_fetch fM (k_a (d ((8 : Int32).toNatClampNeg))) = (nI m0, nI m1 &&& 7, nI m2 &&& 7, nI m3 &&& 7, (nI m3).toInt8.toInt32, 256 * nI m2 + nI m3) := by
      rw [n8, ← h8]
      unfold f_R_fetch
      rw [w0, w1, w2, w3, a7_e m1 r1, a7_e m2 r2, a7_e m3 r3, im_e m3 r3]
    rw [w0] at b0
    rw [w1] at b1
    rw [w2] at b2
    rw [w3] at b3
    have ha : (nI m1 &&& 7).toNatClampNeg < 8 := by
      obtain ⟨j, hj, e⟩ := pk_andE (nI m1) (m := 7) 3 (by decide)
      rw [e, nI_clamp (by omega)]
      omega
    have hb : (nI m2 &&& 7).toNatClampNeg < 8 := by
      obtain ⟨j, hj, e⟩ := pk_andE (nI m2) (m := 7) 3 (by decide)
      rw [e, nI_clamp (by omega)]
      omega
    have hg : (nI m3 &&& 7).toNatClampNeg < 8 := by
      obtain ⟨j, hj, e⟩ := pk_andE (nI m3) (m := 7) 3 (by decide)
      rw [e, nI_clamp (by omega)]
      omega
    have hv : 0 ≤ (nI m0).toInt := by rw [nI_toInt (by omega)]; omega
    have eM : f_M_step sS fB gT c = (if nI m0 = 0 then (0, 1, fB, gT, c) else if nI m0 = 1 then ((f_M_advance (f_K_becomeNumber c (nI m1 &&& 7).toNatClampNeg (256 * nI m2 + nI m3)) 0).1, sS, fB, gT, (f_M_advance (f_K_becomeNumber c (nI m1 &&& 7).toNatClampNeg (256 * nI m2 + nI m3)) 0).2)
        else if nI m0 = 4 then ((f_M_branch c (if k_a (c (nI m1 &&& 7).toNatClampNeg) = k_a (c (nI m2 &&& 7).toNatClampNeg) then true else false) (nI m3).toInt8.toInt32).1, sS, fB, gT, (f_M_branch c (if k_a (c (nI m1 &&& 7).toNatClampNeg) = k_a (c (nI m2 &&& 7).toNatClampNeg) then true else false) (nI m3).toInt8.toInt32).2)
        else if nI m0 = 5 then ((f_M_branch c (if k_a (c (nI m2 &&& 7).toNatClampNeg) ≤ k_a (c (nI m1 &&& 7).toNatClampNeg) then false else true) (nI m3).toInt8.toInt32).1, sS, fB, gT, (f_M_branch c (if k_a (c (nI m2 &&& 7).toNatClampNeg) ≤ k_a (c (nI m1 &&& 7).toNatClampNeg) then false else true) (nI m3).toInt8.toInt32).2)
        else if nI m0 = 6 then ((f_M_branch c (if k_a (c (nI m1 &&& 7).toNatClampNeg) = k_a (c (nI m2 &&& 7).toNatClampNeg) then false else true) (nI m3).toInt8.toInt32).1, sS, fB, gT, (f_M_branch c (if k_a (c (nI m1 &&& 7).toNatClampNeg) = k_a (c (nI m2 &&& 7).toNatClampNeg) then false else true) (nI m3).toInt8.toInt32).2)
        else if nI m0 = 16 then ((f_M_jump c (nI m1 &&& 7).toNatClampNeg (nI m2 &&& 7).toNatClampNeg).1, sS, fB, gT, (f_M_jump c (nI m1 &&& 7).toNatClampNeg (nI m2 &&& 7).toNatClampNeg).2)
        else ((f_M_advance (f_M_compute fB gT c (nI m0) (nI m1 &&& 7).toNatClampNeg (nI m2 &&& 7).toNatClampNeg (nI m3 &&& 7).toNatClampNeg (nI m3).toInt8.toInt32).2.2.2 (f_M_compute fB gT c (nI m0) (nI m1 &&& 7).toNatClampNeg (nI m2 &&& 7).toNatClampNeg (nI m3 &&& 7).toNatClampNeg (nI m3).toInt8.toInt32).1).1, sS, (f_M_compute fB gT c (nI m0) (nI m1 &&& 7).toNatClampNeg (nI m2 &&& 7).toNatClampNeg (nI m3 &&& 7).toNatClampNeg (nI m3).toInt8.toInt32).2.1, (f_M_compute fB gT c (nI m0) (nI m1 &&& 7).toNatClampNeg (nI m2 &&& 7).toNatClampNeg (nI m3 &&& 7).toNatClampNeg (nI m3).toInt8.toInt32).2.2.1, (f_M_advance (f_M_compute fB gT c (nI m0) (nI m1 &&& 7).toNatClampNeg (nI m2 &&& 7).toNatClampNeg (nI m3 &&& 7).toNatClampNeg (nI m3).toInt8.toInt32).2.2.2 (f_M_compute fB gT c (nI m0) (nI m1 &&& 7).toNatClampNeg (nI m2 &&& 7).toNatClampNeg (nI m3 &&& 7).toNatClampNeg (nI m3).toInt8.toInt32).1).2)) := by
      unfold f_M_step
      rw [if_pos h, b0, b1, b2, b3]
    generalize nI m0 = v at *
    generalize nI m1 &&& 7 = A at *
    generalize (nI m3).toInt8.toInt32 = iv at *
    generalize hB : nI m2 &&& 7 = B at *
    generalize hGg : nI m3 &&& 7 = G at *
    generalize hH : 256 * nI m2 + nI m3 = hh at *
    have ha' : A.toNatClampNeg < 11 := by omega
    have hb' : B.toNatClampNeg < 11 := by omega
    clear b0 b1 b2 b3 w0 w1 w2 w3
    by_cases v0 : v = 0
    · subst v0
      rw [if_pos rfl] at eM
      rw [eM, rs_ok hALW ft rfl, if_pos rfl]
      exact ⟨hM, hT, Or.inl ⟨rfl, rfl, rfl, rfl, hQ, hG⟩⟩
    rw [if_neg v0] at eM
    by_cases v1 : v = 1
    · subst v1
      rw [if_pos rfl] at eM
      have e3 : f_R_doIt 1 A B G iv hh fM gU d = (fM, gU, f_R_move (f_R_number d A hh) 8 (k_a (d ((8 : Int32).toNatClampNeg)) + 4 + 0)) := rfl
      rw [eM, rs_ok hALW ft rfl, if_neg (by decide : ¬ (1 : Int32) = 0), if_neg (by decide : ¬ (1 : Int32) = 16), e3]
      rcases fin (s_num (a := A) hQ hM hT hG ha hh) hQ with ⟨_, x1, x2, x3, x4, x5⟩ | ⟨x, _⟩
      · exact ⟨hM, hT, Or.inl ⟨x1, rfl, rfl, rfl, x4, x5⟩⟩
      · exact absurd (by decide) x
    rw [if_neg v1] at eM
    by_cases v4 : v = 4
    · subst v4
      rw [if_pos rfl] at eM
      have e3 : f_R_doIt 4 A B G iv hh fM gU d = (fM, gU, f_R_move d 8 (k_a (d ((8 : Int32).toNatClampNeg)) + 4 + (if f_R_goes 4 A B d = true then 4 * iv else 0))) := rfl
      have eg : f_R_goes 4 A B d = (if k_a (c A.toNatClampNeg) = k_a (c B.toNatClampNeg) then true else false) := by rw [hQ _ ha', hQ _ hb']; rfl
      obtain ⟨x1, x2⟩ := br_q hQ hG eg iv
      rw [eM, rs_ok hALW ft rfl, if_neg (by decide : ¬ (4 : Int32) = 0), if_neg (by decide : ¬ (4 : Int32) = 16), e3]
      exact ⟨hM, hT, Or.inl ⟨rfl, rfl, rfl, rfl, x1, x2⟩⟩
    rw [if_neg v4] at eM
    by_cases v5 : v = 5
    · subst v5
      rw [if_pos rfl] at eM
      have e3 : f_R_doIt 5 A B G iv hh fM gU d = (fM, gU, f_R_move d 8 (k_a (d ((8 : Int32).toNatClampNeg)) + 4 + (if f_R_goes 5 A B d = true then 4 * iv else 0))) := rfl
      have eg : f_R_goes 5 A B d = (if k_a (c B.toNatClampNeg) ≤ k_a (c A.toNatClampNeg) then false else true) := by rw [hQ _ ha', hQ _ hb']; rfl
      obtain ⟨x1, x2⟩ := br_q hQ hG eg iv
      rw [eM, rs_ok hALW ft rfl, if_neg (by decide : ¬ (5 : Int32) = 0), if_neg (by decide : ¬ (5 : Int32) = 16), e3]
      exact ⟨hM, hT, Or.inl ⟨rfl, rfl, rfl, rfl, x1, x2⟩⟩
    rw [if_neg v5] at eM
    by_cases v6 : v = 6
    · subst v6
      rw [if_pos rfl] at eM
      have e3 : f_R_doIt 6 A B G iv hh fM gU d = (fM, gU, f_R_move d 8 (k_a (d ((8 : Int32).toNatClampNeg)) + 4 + (if f_R_goes 6 A B d = true then 4 * iv else 0))) := rfl
      have eg : f_R_goes 6 A B d = (if k_a (c A.toNatClampNeg) = k_a (c B.toNatClampNeg) then false else true) := by rw [hQ _ ha', hQ _ hb']; rfl
      obtain ⟨x1, x2⟩ := br_q hQ hG eg iv
      rw [eM, rs_ok hALW ft rfl, if_neg (by decide : ¬ (6 : Int32) = 0), if_neg (by decide : ¬ (6 : Int32) = 16), e3]
      exact ⟨hM, hT, Or.inl ⟨rfl, rfl, rfl, rfl, x1, x2⟩⟩
    rw [if_neg v6] at eM
    by_cases v16 : v = 16
    · subst v16
      rw [if_pos rfl] at eM
      have e2 : f_R_exception 16 A B G iv d = (if k_v (c B.toNatClampNeg) = true then (if k_y (c B.toNatClampNeg) ≤ 1 then (if f_K_permits c B.toNatClampNeg 4 = true then 0 else 3) else 2) else 1) := by
        have e : f_R_exception 16 A B G iv d = f_R_forJump B d := rfl
        rw [e]
        unfold f_R_forJump
        rw [pm_eq hQ hb', hQ _ hb']
      by_cases y1 : k_v (c B.toNatClampNeg) = true
      · rw [if_pos y1] at e2
        by_cases y2 : k_y (c B.toNatClampNeg) ≤ 1
        · rw [if_pos y2] at e2
          by_cases y3 : f_K_permits c B.toNatClampNeg 4 = true
          · rw [if_pos y3] at e2
            have ej : f_M_jump c A.toNatClampNeg B.toNatClampNeg = (0, va_up (va_up (va_up c 11 (lkc (c 8))) 8 (s_y (c B.toNatClampNeg) 0)) A.toNatClampNeg (lkc (c 8))) := by
              unfold f_M_jump
              rw [if_pos y1, if_pos y2, if_pos y3, jm_c ha hb (hG 8 (by decide))]
            obtain ⟨x1, x2⟩ := jm_q hQ hG ha hb
            rw [ej] at eM
            rw [eM, rs_ok hALW ft e2, if_neg (by decide : ¬ (16 : Int32) = 0), if_pos rfl]
            exact ⟨hM, hT, Or.inl ⟨rfl, rfl, rfl, rfl, x1, x2⟩⟩
          · rw [if_neg y3] at e2
            have ej : f_M_jump c A.toNatClampNeg B.toNatClampNeg = (3, c) := by
              unfold f_M_jump
              rw [if_pos y1, if_pos y2, if_neg y3]
            rw [ej] at eM
            exact sq_no hQ hM hT hG (by rw [e2]; decide) (by rw [e2]; exact eM) (rs_no hALW ft (by rw [e2]; decide))
        · rw [if_neg y2] at e2
          have ej : f_M_jump c A.toNatClampNeg B.toNatClampNeg = (2, c) := by
            unfold f_M_jump
            rw [if_pos y1, if_neg y2]
          rw [ej] at eM
          exact sq_no hQ hM hT hG (by rw [e2]; decide) (by rw [e2]; exact eM) (rs_no hALW ft (by rw [e2]; decide))
      · rw [if_neg y1] at e2
        have ej : f_M_jump c A.toNatClampNeg B.toNatClampNeg = (1, c) := by
          unfold f_M_jump
          rw [if_neg y1]
        rw [ej] at eM
        exact sq_no hQ hM hT hG (by rw [e2]; decide) (by rw [e2]; exact eM) (rs_no hALW ft (by rw [e2]; decide))
    rw [if_neg v16] at eM
    have hs := fin (s_all hv v0 v1 v4 v5 v6 v16 hQ hM hT hG ha hb hg hy iv hh) hQ
    rcases hs with ⟨x0, x1, x2, x3, x4, x5⟩ | ⟨x0, x1, x2, x3⟩
    · rw [eM, rs_ok hALW ft x0, if_neg v0, if_neg v16]
      exact ⟨x2, x3, Or.inl ⟨x1, rfl, rfl, rfl, x4, x5⟩⟩
    · rw [x1, x2, x3] at eM
      exact sq_no hQ hM hT hG x0 eM (rs_no hALW ft x0)
  · have hE : ¬ f_K_refusal c 8 4 ((k_a (c 8)).toInt64) 4 ≤ 0 := fun z => h (by rw [q] at z ⊢; exact al_le z)
    have eM : f_M_step sS fB gT c = (f_K_refusal c 8 4 ((k_a (c 8)).toInt64) 4, sS, fB, gT, c) := if_neg h
    refine sq_no (co := co) (ra := ra) (rb := rb) (rc := rc) (im := im) (hf := hf) hQ hM hT hG hE eM ?_
    unfold f_R_step
    rw [qd, if_neg h, if_neg hE, if_pos rfl]
end Whole
