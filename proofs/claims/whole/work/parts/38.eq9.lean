-- a step of both sides
section Step
variable {fB fM : Nat → Int32} {gT gU : Nat → Bool} {c d : Nat → Cp} {a b g : Int32}
theorem up_cm (X : Nat → Cp) {i j : Nat} (h : ¬ i = j) (p q : Cp) : va_up (va_up X i p) j q = va_up (va_up X j q) i p := by
  funext k
  by_cases h1 : k = i
  · subst h1
    rw [va_up_self, va_up_ne _ _ h, va_up_self]
  · by_cases h2 : k = j
    · subst h2
      rw [va_up_self, va_up_ne _ _ h1, va_up_self]
    · rw [va_up_ne _ _ h2, va_up_ne _ _ h1, va_up_ne _ _ h1, va_up_ne _ _ h2]
theorem s_all {v : Int32} (hv : 0 ≤ v.toInt) (n0 : ¬ v = 0) (n1 : ¬ v = 1) (n4 : ¬ v = 4) (n5 : ¬ v = 5) (n6 : ¬ v = 6) (n16 : ¬ v = 16) (hQ : Qr c d) (hM : Mr fB fM) (hT : Tr gT gU) (hG : Gr c) (ha : a.toNatClampNeg < 8) (hb : b.toNatClampNeg < 8) (hg : g.toNatClampNeg < 8) (h8 : k_y (c 8) = 0) (iv hf : Int32) : Sim fB gT c d (f_M_compute fB gT c v a.toNatClampNeg b.toNatClampNeg g.toNatClampNeg iv) (f_R_exception v a b g iv d) (f_R_doIt v a b g iv hf fM gU d) := by
  by_cases h : v ≤ 32
  · have x32 : (32 : Int32).toInt = 32 := by decide
    rw [Int32.le_iff_toInt_le] at h
    have e := i32_of hv
    generalize hn : v.toInt.toNat = n at e
    have hn2 : n < 33 := by omega
    match n, e, hn2 with
    | 0, e, _ => exact absurd e n0
    | 1, e, _ => exact absurd e n1
    | 2, e, _ => rw [e]; exact s_2 hQ hM hT hG ha hb hg iv hf
    | 3, e, _ => rw [e]; exact s_3 hQ hM hT hG ha hb hg iv hf
    | 4, e, _ => exact absurd e n4
    | 5, e, _ => exact absurd e n5
    | 6, e, _ => exact absurd e n6
    | 7, e, _ => rw [e]; exact s_7 hQ hM hT hG ha hb iv hf _
    | 8, e, _ => rw [e]; exact s_8 hQ hM hT hG ha hb hg iv hf
    | 9, e, _ => rw [e]; exact s_9 hQ hM hT hG ha hb iv hf _
    | 10, e, _ => rw [e]; exact s_10 hQ hM hT hG ha hb hg iv hf
    | 11, e, _ => rw [e]; exact s_11 hQ hM hT hG ha hb hg iv hf
    | 12, e, _ => rw [e]; exact s_12 hQ hM hT hG ha hb hg iv hf
    | 13, e, _ => rw [e]; exact s_13 hQ hM hT hG ha hb hg iv hf
    | 14, e, _ => rw [e]; exact s_14 hQ hM hT hG ha hb hg iv hf
    | 15, e, _ => rw [e]; exact s_15 hQ hM hT hG ha hb iv hf _
    | 16, e, _ => exact absurd e n16
    | 17, e, _ => rw [e]; exact s_17 hQ hM hT hG ha hb iv hf _
    | 18, e, _ => rw [e]; exact s_18 hQ hM hT hG ha hb iv hf _
    | 19, e, _ => rw [e]; exact s_19 hQ hM hT hG ha hb iv hf _
    | 20, e, _ => rw [e]; exact s_20 hQ hM hT hG ha hb iv hf _
    | 21, e, _ => rw [e]; exact s_21 hQ hM hT hG ha hb iv hf _
    | 22, e, _ => rw [e]; exact s_22 hQ hM hT hG ha hb iv hf _
    | 23, e, _ => rw [e]; exact s_23 hQ hM hT hG ha hb iv hf _
    | 24, e, _ => rw [e]; exact s_24 hQ hM hT hG ha hb iv hf _
    | 25, e, _ => rw [e]; exact s_25 hQ hM hT hG ha hb iv hf _
    | 26, e, _ => rw [e]; exact s_26 hQ hM hT hG ha hb iv hf _
    | 27, e, _ => rw [e]; exact s_27 hQ hM hT hG ha hb iv hf _
    | 28, e, _ => rw [e]; exact s_28 hQ hM hT hG ha hb iv hf _
    | 29, e, _ => rw [e]; exact s_29 hQ hM hT hG ha hb iv hf _
    | 30, e, _ => rw [e]; exact s_30 hQ hM hT hG ha hb hg iv hf
    | 31, e, _ => rw [e]; exact s_31 hQ hM hT hG ha h8 iv hf _ _
    | 32, e, _ => rw [e]; exact s_32 hQ hM hT hG ha iv hf _ _
    | n + 33, _, h => exact absurd h (by omega)
  · exact s_il h iv _ _ _ _
/-- a move on of PC, both sides -/
theorem mv_q {c1 d2 : Nat → Cp} (hQ : Qr c1 d2) (hG : Gr c1) (n : Int32) : Qr (f_K_moveTo c1 8 n) (f_R_move d2 8 n) ∧ Gr (f_K_moveTo c1 8 n) := by
  have h8 := hQ 8 (by decide)
  rw [cf_moveTo (hG 8 (by decide)), rf_move (r := 8) (by rw [n8, ← h8]; exact hG 8 (by decide)), n8, ← h8]
  exact ⟨hQ.up _ _, hG.up (rg_mv (hG 8 (by decide)) n)⟩
theorem fin {R : Int32 × (Nat → Int32) × (Nat → Bool) × (Nat → Cp)} {E : Int32} {Z : (Nat → Int32) × (Nat → Bool) × (Nat → Cp)} (h : Sim fB gT c d R E Z) (hQ : Qr c d) : (E = 0 ∧ (f_M_advance R.2.2.2 R.1).1 = 0 ∧ Mr R.2.1 Z.1 ∧ Tr R.2.2.1 Z.2.1 ∧ Qr (f_M_advance R.2.2.2 R.1).2 Z.2.2 ∧ Gr (f_M_advance R.2.2.2 R.1).2) ∨ (¬ E ≤ 0 ∧ f_M_advance R.2.2.2 R.1 = (E, c) ∧ R.2.1 = fB ∧ R.2.2.1 = gT) := by
  rcases h with ⟨hE, f1, g1, c1, f2, g2, d2, rfl, rfl, hM, hT, hq, h8, hG⟩ | ⟨hE, rfl⟩
  · left
    have e : f_M_advance c1 0 = (0, f_K_moveTo c1 8 (k_a (c1 8) + 4)) := if_pos rfl
    have q := mv_q hq hG (k_a (c1 8) + 4)
    have e2 : k_a (d ((8 : Int32).toNatClampNeg)) + 4 + 0 = k_a (c1 8) + 4 := by rw [n8, h8, hQ 8 (by decide), Int32.add_zero]
    refine ⟨hE, ?_, hM, hT, ?_, ?_⟩
    · show (f_M_advance c1 0).1 = 0
      rw [e]
    · show Qr (f_M_advance c1 0).2 (f_R_move d2 8 (k_a (d ((8 : Int32).toNatClampNeg)) + 4 + 0))
      rw [e, e2]
      exact q.1
    · show Gr (f_M_advance c1 0).2
      rw [e]
      exact q.2
  · right
    refine ⟨hE, ?_, rfl, rfl⟩
    show f_M_advance c E = (E, c)
    exact if_neg (fun z => hE (by rw [z]; decide))
-- the jump
def lkc (z : Cp) : Cp := s_y (mvc z (k_a z + 4)) 1
theorem jm_c {i j : Nat} (hi : i < 8) (hj : j < 8) (hG : Rg (c 8)) : f_K_become (va_up (f_K_become (va_up (f_K_moveTo (f_K_become c 11 8) 11 (k_a ((f_K_become c 11 8) 8) + 4)) 11 (s_y ((f_K_moveTo (f_K_become c 11 8) 11 (k_a ((f_K_become c 11 8) 8) + 4)) 11) 1)) 8 j) 8 (s_y ((f_K_become (va_up (f_K_moveTo (f_K_become c 11 8) 11 (k_a ((f_K_become c 11 8) 8) + 4)) 11 (s_y ((f_K_moveTo (f_K_become c 11 8) 11 (k_a ((f_K_become c 11 8) 8) + 4)) 11) 1)) 8 j) 8) 0)) i 11 = va_up (va_up (va_up c 11 (lkc (c 8))) 8 (s_y (c j) 0)) i (lkc (c 8)) := by
  have x1 : va_up (f_K_moveTo (f_K_become c 11 8) 11 (k_a ((f_K_become c 11 8) 8) + 4)) 11 (s_y ((f_K_moveTo (f_K_become c 11 8) 11 (k_a ((f_K_become c 11 8) 8) + 4)) 11) 1) = va_up c 11 (lkc (c 8)) := by
    rw [cf_become, cf_moveTo (by rw [va_up_self]; exact hG), va_up_self, bx_uu, va_up_self, bx_uu, va_up_ne _ _ (by decide : (8 : Nat) ≠ 11)]
    rfl
  rw [x1, cf_become, cf_become, va_up_ne _ _ (show j ≠ 11 by omega), va_up_self, bx_uu, va_up_ne _ _ (by decide : (11 : Nat) ≠ 8), va_up_self]
theorem jm_r (ha : a.toNatClampNeg < 8) (hb : b.toNatClampNeg < 8) (hG : Rg (d 8)) : f_R_jump a b d = va_up (va_up (va_up d 11 (d b.toNatClampNeg)) a.toNatClampNeg (lkc (d 8))) 8 (s_y (d b.toNatClampNeg) 0) := by
  have y1 : f_R_copy (f_R_copy d b 11) 8 a = va_up (va_up d 11 (d b.toNatClampNeg)) a.toNatClampNeg (d 8) := by
    rw [dr_in (show b.toNatClampNeg < 11 by omega), rf_copy _ (r0 := 8) (r1 := a) (by rw [n8]; omega), n8, va_up_ne _ _ (by decide : (8 : Nat) ≠ 11)]
  unfold f_R_jump
  rw [y1, n8, va_up_ne _ _ (show 8 ≠ a.toNatClampNeg by omega), va_up_ne _ _ (by decide : (8 : Nat) ≠ 11), rf_move (r := a) (by rw [va_up_self]; exact hG), va_up_self, bx_uu, va_up_self, bx_uu, rf_copy _ (r0 := 11) (r1 := 8) (by decide), n8, n11, va_up_self, bx_uu, va_up_ne _ _ (show 11 ≠ a.toNatClampNeg by omega), va_up_self]
  rfl
theorem rg_lk {z : Cp} (h : Rg z) : Rg (lkc z) := rg_sy (rg_mv h _) (by decide) (by decide)
theorem jm_q (hQ : Qr c d) (hG : Gr c) (ha : a.toNatClampNeg < 8) (hb : b.toNatClampNeg < 8) : Qr (va_up (va_up (va_up c 11 (lkc (c 8))) 8 (s_y (c b.toNatClampNeg) 0)) a.toNatClampNeg (lkc (c 8))) (f_R_jump a b d) ∧ Gr (va_up (va_up (va_up c 11 (lkc (c 8))) 8 (s_y (c b.toNatClampNeg) 0)) a.toNatClampNeg (lkc (c 8))) := by
  have hG' := hG.to hQ
  have hb' : b.toNatClampNeg < 11 := by omega
  rw [jm_r ha hb (hG' 8 (by decide)), up_cm _ (show ¬ 8 = a.toNatClampNeg by omega), ← hQ 8 (by decide), ← hQ _ hb']
  refine ⟨((((hQ.l _).r _).up _ _).up _ _), ?_⟩
  have hl : Gr (va_up c 11 (lkc (c 8))) := hG.up (rg_lk (hG 8 (by decide)))
  exact (hl.up (rg_lk (hG 8 (by decide)))).up (rg_sy (hG _ hb') (by decide) (by decide))
-- bytes of an instruction
theorem a7_e : ∀ n : Nat, n < 256 → (nI n - nI n / 8 * 8 = nI n &&& 7) := by decide +kernel
theorem im_e : ∀ n : Nat, n < 256 → ((if (128 : Int32) ≤ nI n then nI n - 256 else nI n) = (nI n).toInt8.toInt32) := by decide +kernel
theorem b_of {x : Int32} (h : ∃ y : Int32, x = y &&& 255) : ∃ n : Nat, n < 256 ∧ x = nI n := by
  obtain ⟨y, rfl⟩ := h
  exact pk_andE y (m := 255) 8 (by decide)
end Step
