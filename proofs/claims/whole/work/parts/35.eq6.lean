-- bounds
theorem dn_eq : ∀ n : Nat, n < 1024 → f_R_down (nI n) = f_M_multipleNotAbove (nI n) := by decide +kernel
theorem up_eq : ∀ n : Nat, n < 1024 → f_R_up (nI n) = f_M_multipleNotBelow (nI n) := by decide +kernel
theorem rm_eq : ∀ n : Nat, n < 1024 → (nI n - nI n / 8 * 8 = 0 ↔ f_M_multipleNotAbove (nI n) = nI n) := by decide +kernel
theorem dn_r : ∀ n : Nat, n < 1024 → 0 ≤ (f_M_multipleNotAbove (nI n)).toInt ∧ (f_M_multipleNotAbove (nI n)).toInt ≤ 1023 := by decide +kernel
theorem up_r : ∀ n : Nat, n < 1024 → 0 ≤ (f_M_multipleNotBelow (nI n)).toInt := by decide +kernel
theorem i32_of {x : Int32} (h0 : 0 ≤ x.toInt) : x = nI x.toInt.toNat := by
  have := Int32.toInt_lt x
  exact Int32.toInt_inj.mp (by rw [nI_toInt (by omega)]; omega)
theorem ex_eq {x y : Int32} (h0 : 0 ≤ x.toInt) (h1 : x.toInt ≤ 1023) (h2 : 0 ≤ y.toInt) (h3 : y.toInt ≤ 1023) : f_R_exact x y = f_M_areExact x y := by
  have qx := rm_eq x.toInt.toNat (by omega)
  have qy := rm_eq y.toInt.toNat (by omega)
  rw [← i32_of h0] at qx
  rw [← i32_of h2] at qy
  unfold f_R_exact f_M_areExact
  by_cases h : y - x ≤ 64
  · rw [if_pos h, if_pos h]
  · rw [if_neg h, if_neg h]
    by_cases a1 : x - x / 8 * 8 = 0
    · rw [if_pos a1, if_pos (qx.mp a1)]
      by_cases a2 : y - y / 8 * 8 = 0
      · rw [if_pos a2, if_pos (qy.mp a2), if_pos rfl]
      · rw [if_neg a2, if_neg (fun z => a2 (qy.mpr z)), if_neg Bool.false_ne_true]
    · rw [if_neg a1, if_neg (fun z => a1 (qx.mpr z)), if_neg Bool.false_ne_true]
theorem sm32 (x y : Int32) : (x.toInt64 + y.toInt64).toInt32 = x + y := by
  have a := Int32.le_toInt x
  have b := Int32.le_toInt y
  have a' := Int32.toInt_lt x
  have b' := Int32.toInt_lt y
  apply Int32.toInt_inj.mp
  rw [Int64.toInt_toInt32, ad_l (by rw [Int32.toInt_toInt64, Int32.toInt_toInt64]; omega) (by rw [Int32.toInt_toInt64, Int32.toInt_toInt64]; omega), Int32.toInt_toInt64, Int32.toInt_toInt64, Int32.toInt_add]
section Bounds
variable {fB fM : Nat → Int32} {gT gU : Nat → Bool} {c d : Nat → Cp} {a b g : Int32}
theorem bd_up (i j : Nat) (p q : Int32) : va_up (f_K_become c i j) i (s_t (s_b ((f_K_become c i j) i) p) q) = va_up c i (s_t (s_b (c j) p) q) := by rw [cf_become, bx_uu, va_up_self]
theorem rb_up (hb : b.toNatClampNeg < 11) (hg : g.toNatClampNeg < 11) (ha : a.toNatClampNeg < 8) : f_R_copy (f_R_bound b g (f_R_copy d b 11)) 11 a = va_up (va_up d 11 (s_t (s_b (d b.toNatClampNeg) (if f_R_exact (k_a (d b.toNatClampNeg)) (k_a (d b.toNatClampNeg) + k_a (d g.toNatClampNeg)) = true then k_a (d b.toNatClampNeg) else f_R_down (k_a (d b.toNatClampNeg)))) (if f_R_exact (k_a (d b.toNatClampNeg)) (k_a (d b.toNatClampNeg) + k_a (d g.toNatClampNeg)) = true then k_a (d b.toNatClampNeg) + k_a (d g.toNatClampNeg) else f_R_up (k_a (d b.toNatClampNeg) + k_a (d g.toNatClampNeg))))) a.toNatClampNeg (s_t (s_b (d b.toNatClampNeg) (if f_R_exact (k_a (d b.toNatClampNeg)) (k_a (d b.toNatClampNeg) + k_a (d g.toNatClampNeg)) = true then k_a (d b.toNatClampNeg) else f_R_down (k_a (d b.toNatClampNeg)))) (if f_R_exact (k_a (d b.toNatClampNeg)) (k_a (d b.toNatClampNeg) + k_a (d g.toNatClampNeg)) = true then k_a (d b.toNatClampNeg) + k_a (d g.toNatClampNeg) else f_R_up (k_a (d b.toNatClampNeg) + k_a (d g.toNatClampNeg)))) := by
  unfold f_R_bound
  rw [dr_z hb ha, dr_at hb, dr_ne hb hb, dr_ne hb hg]
set_option maxHeartbeats 8000000 in
theorem s_bd (k iv hf : Int32) (ex : Bool) (hk1 : ex = true → k = 11) (hk0 : ex = false → ¬ k = 11) (hQ : Qr c d) (hM : Mr fB fM) (hT : Tr gT gU) (hG : Gr c) (ha : a.toNatClampNeg < 8) (hb : b.toNatClampNeg < 8) (hg : g.toNatClampNeg < 8)
    (e1 : f_M_compute fB gT c k a.toNatClampNeg b.toNatClampNeg g.toNatClampNeg iv = ((f_M_withBounds c a.toNatClampNeg b.toNatClampNeg (k_a (c g.toNatClampNeg)) ex).1, fB, gT, (f_M_withBounds c a.toNatClampNeg b.toNatClampNeg (k_a (c g.toNatClampNeg)) ex).2))
    (e2 : f_R_exception k a b g iv d = f_R_forBounds k b g d) (e3 : f_R_doIt k a b g iv hf fM gU d = (fM, gU, f_R_move (f_R_copy (f_R_bound b g (f_R_copy d b 11)) 11 a) 8 (k_a (d ((8 : Int32).toNatClampNeg)) + 4 + 0))) :
    Sim fB gT c d (f_M_compute fB gT c k a.toNatClampNeg b.toNatClampNeg g.toNatClampNeg iv) (f_R_exception k a b g iv d) (f_R_doIt k a b g iv hf fM gU d) := by
  have hb' : b.toNatClampNeg < 11 := by omega
  have hg' : g.toNatClampNeg < 11 := by omega
  have hr := hG _ hb'
  rw [rb_up hb' hg' ha] at e3
  unfold f_R_forBounds f_R_usable at e2
  rw [← hQ _ hb', ← hQ _ hg'] at e2 e3
  unfold f_M_withBounds at e1
  simp only [bd_up, sm32] at e1
  obtain ⟨b0, b1, t0, t1, p0, p1, y0, y1⟩ := hr
  have hr := hG _ hb'
  have x0 : (0 : Int32).toInt = 0 := by decide
  by_cases hv : k_v (c b.toNatClampNeg) = true
  · rw [if_pos hv] at e1
    simp only [if_pos hv] at e2
    by_cases hy : k_y (c b.toNatClampNeg) = 0
    · rw [if_pos hy] at e1
      simp only [if_pos ((y_le hr).mpr hy), if_pos (by decide : (0 : Int32) ≤ 0)] at e2
      by_cases hl : k_a (c g.toNatClampNeg) < 0
      · rw [if_pos hl] at e1 e2
        exact sm_no 4 (by decide) e2 e1
      · rw [if_neg hl] at e1 e2
        by_cases hx : k_a (c b.toNatClampNeg) < k_b (c b.toNatClampNeg)
        · rw [if_pos hx] at e1 e2
          exact sm_no 4 (by decide) e2 e1
        · rw [if_neg hx] at e1 e2
          have hl' := hl
          have hx' := hx
          rw [Int32.lt_iff_toInt_lt] at hl' hx'
          have l1 := Int32.toInt_lt (k_a (c g.toNatClampNeg))
          have l2 := Int32.toInt_lt (k_a (c b.toNatClampNeg))
          have es := ad_l (x := (k_a (c b.toNatClampNeg)).toInt64) (y := (k_a (c g.toNatClampNeg)).toInt64) (by rw [Int32.toInt_toInt64, Int32.toInt_toInt64]; omega) (by rw [Int32.toInt_toInt64, Int32.toInt_toInt64]; omega)
          rw [Int32.toInt_toInt64, Int32.toInt_toInt64] at es
          have ed := sb_s (x := k_t (c b.toNatClampNeg)) (y := k_a (c b.toNatClampNeg)) (by omega) (by omega)
          by_cases hs : (k_a (c b.toNatClampNeg)).toInt + (k_a (c g.toNatClampNeg)).toInt ≤ (k_t (c b.toNatClampNeg)).toInt
          · have q1 : lg_cmp ((k_a (c b.toNatClampNeg)).toInt64 + (k_a (c g.toNatClampNeg)).toInt64) (k_t (c b.toNatClampNeg)).toInt64 ≤ 0 := by rw [lg_cmp_le, Int64.le_iff_toInt_le, es, Int32.toInt_toInt64]; exact hs
            have q2 : ¬ k_t (c b.toNatClampNeg) < k_a (c b.toNatClampNeg) := by rw [Int32.lt_iff_toInt_lt]; omega
            have q3 : k_a (c g.toNatClampNeg) ≤ k_t (c b.toNatClampNeg) - k_a (c b.toNatClampNeg) := by rw [Int32.le_iff_toInt_le, ed]; omega
            rw [if_pos q1] at e1
            rw [if_neg q2, if_pos q3] at e2
            have ey := ad_s (x := k_a (c b.toNatClampNeg)) (y := k_a (c g.toNatClampNeg)) (by omega) (by omega)
            have ee := ex_eq (x := k_a (c b.toNatClampNeg)) (y := k_a (c b.toNatClampNeg) + k_a (c g.toNatClampNeg)) (by omega) (by omega) (by omega) (by omega)
            rw [ee] at e2 e3
            have ud := dn_eq (k_a (c b.toNatClampNeg)).toInt.toNat (by omega)
            rw [← i32_of (by omega)] at ud
            have uu := up_eq (k_a (c b.toNatClampNeg) + k_a (c g.toNatClampNeg)).toInt.toNat (by omega)
            rw [← i32_of (by omega)] at uu
            have rd := dn_r (k_a (c b.toNatClampNeg)).toInt.toNat (by omega)
            rw [← i32_of (by omega)] at rd
            have ru := up_r (k_a (c b.toNatClampNeg) + k_a (c g.toNatClampNeg)).toInt.toNat (by omega)
            rw [← i32_of (by omega)] at ru
            rw [ud, uu] at e2 e3
            generalize hyy : k_a (c b.toNatClampNeg) + k_a (c g.toNatClampNeg) = yy at *
            by_cases he : f_M_areExact (k_a (c b.toNatClampNeg)) yy = true
            · have q4 : yy ≤ k_t (c b.toNatClampNeg) := by rw [Int32.le_iff_toInt_le]; omega
              simp only [if_pos he, if_neg hx, if_pos q4] at e1 e2 e3
              have e1' : f_M_compute fB gT c k a.toNatClampNeg b.toNatClampNeg g.toNatClampNeg iv = (0, fB, gT, va_up c a.toNatClampNeg (s_t (s_b (c b.toNatClampNeg) (k_a (c b.toNatClampNeg))) yy)) := by
                rw [e1]
                cases ex <;> rfl
              rw [e1']
              exact sm_up (i := a.toNatClampNeg) (z := s_t (s_b (c b.toNatClampNeg) (k_a (c b.toNatClampNeg))) yy) hM hT hG (by omega) ⟨by show 0 ≤ (k_a (c b.toNatClampNeg)).toInt; omega, by show (k_a (c b.toNatClampNeg)).toInt ≤ 1023; omega, by show 0 ≤ yy.toInt; omega, by show yy.toInt ≤ 1023; omega, p0, p1, y0, y1⟩ e2 rfl (q_z hQ _) e3
            · simp only [if_neg he] at e1 e2 e3
              by_cases q5 : f_M_multipleNotAbove (k_a (c b.toNatClampNeg)) < k_b (c b.toNatClampNeg)
              · simp only [if_pos q5] at e1 e2
                exact sm_no 4 (by decide) e2 e1
              · simp only [if_neg q5] at e1 e2
                by_cases q6 : f_M_multipleNotBelow yy ≤ k_t (c b.toNatClampNeg)
                · simp only [if_pos q6] at e1 e2
                  cases ex with
                  | true =>
                    rw [if_pos (hk1 rfl)] at e2
                    rw [if_pos rfl] at e1
                    exact sm_no 6 (by decide) e2 e1
                  | false =>
                    rw [if_neg (hk0 rfl)] at e2
                    rw [if_neg Bool.false_ne_true] at e1
                    rw [Int32.le_iff_toInt_le] at q6
                    rw [e1]
                    exact sm_up (i := a.toNatClampNeg) (z := s_t (s_b (c b.toNatClampNeg) (f_M_multipleNotAbove (k_a (c b.toNatClampNeg)))) (f_M_multipleNotBelow yy)) hM hT hG (by omega) ⟨rd.1, rd.2, ru, by show (f_M_multipleNotBelow yy).toInt ≤ 1023; omega, p0, p1, y0, y1⟩ e2 rfl (q_z hQ _) e3
                · simp only [if_neg q6] at e1 e2
                  exact sm_no 4 (by decide) e2 e1
          · have q1 : ¬ lg_cmp ((k_a (c b.toNatClampNeg)).toInt64 + (k_a (c g.toNatClampNeg)).toInt64) (k_t (c b.toNatClampNeg)).toInt64 ≤ 0 := by rw [lg_cmp_le, Int64.le_iff_toInt_le, es, Int32.toInt_toInt64]; exact hs
            rw [if_neg q1] at e1
            by_cases q2 : k_t (c b.toNatClampNeg) < k_a (c b.toNatClampNeg)
            · rw [if_pos q2] at e2
              exact sm_no 4 (by decide) e2 e1
            · have q3 : ¬ k_a (c g.toNatClampNeg) ≤ k_t (c b.toNatClampNeg) - k_a (c b.toNatClampNeg) := by rw [Int32.le_iff_toInt_le, ed]; omega
              rw [if_neg q2, if_neg q3] at e2
              exact sm_no 4 (by decide) e2 e1
    · rw [if_neg hy] at e1
      simp only [if_neg (fun z => hy ((y_le hr).mp z)), if_neg (by decide : ¬ (2 : Int32) ≤ 0)] at e2
      exact sm_no 2 (by decide) e2 e1
  · rw [if_neg hv] at e1
    simp only [if_neg hv, if_neg (by decide : ¬ (1 : Int32) ≤ 0)] at e2
    exact sm_no 1 (by decide) e2 e1
theorem s_10 (hQ : Qr c d) (hM : Mr fB fM) (hT : Tr gT gU) (hG : Gr c) (ha : a.toNatClampNeg < 8) (hb : b.toNatClampNeg < 8) (hg : g.toNatClampNeg < 8) (iv hf : Int32) : Sim fB gT c d (f_M_compute fB gT c 10 a.toNatClampNeg b.toNatClampNeg g.toNatClampNeg iv) (f_R_exception 10 a b g iv d) (f_R_doIt 10 a b g iv hf fM gU d) :=
  s_bd 10 iv hf false (fun h => by cases h) (fun _ => by decide) hQ hM hT hG ha hb hg rfl rfl rfl
theorem s_11 (hQ : Qr c d) (hM : Mr fB fM) (hT : Tr gT gU) (hG : Gr c) (ha : a.toNatClampNeg < 8) (hb : b.toNatClampNeg < 8) (hg : g.toNatClampNeg < 8) (iv hf : Int32) : Sim fB gT c d (f_M_compute fB gT c 11 a.toNatClampNeg b.toNatClampNeg g.toNatClampNeg iv) (f_R_exception 11 a b g iv d) (f_R_doIt 11 a b g iv hf fM gU d) :=
  s_bd 11 iv hf true (fun _ => rfl) (fun h => by cases h) hQ hM hT hG ha hb hg rfl rfl rfl
end Bounds
