-- run, side by side
def RnQ (M : Int32 × Int32 × Int32 × (Nat → Int32) × (Nat → Bool) × (Nat → Cp)) (R : Int32 × Int32 × Int32 × Int32 × Int32 × Int32 × Int32 × Int32 × Int32 × Bool × (Nat → Int32) × (Nat → Bool) × (Nat → Cp)) : Prop :=
  R.1 = M.1 ∧ R.2.1 = M.2.2.1 ∧ R.2.2.1 = M.2.1 ∧ Mr M.2.2.2.1 R.2.2.2.2.2.2.2.2.2.2.1 ∧ Tr M.2.2.2.2.1 R.2.2.2.2.2.2.2.2.2.2.2.1 ∧ Qr M.2.2.2.2.2 R.2.2.2.2.2.2.2.2.2.2.2.2 ∧ Gr M.2.2.2.2.2
theorem rn_sim (nn mo : Int32) (hmo : mo = if (2000 : Int32) < nn then (2000 : Int32) else nn) : ∀ (n : Nat) (dn : Int32) (sm : Bool) (sS sC : Int32) (fB : Nat → Int32) (gT : Nat → Bool) (c : Nat → Cp) (co ra rb rc im hf : Int32) (rz : Bool) (fM : Nat → Int32) (gU : Nat → Bool) (d : Nat → Cp),
    0 ≤ dn.toInt → dn.toInt + (n : Int) = 2000 → rz = !sm → Qr c d → Mr fB fM → Tr gT gU → Gr c → RnQ (g_M_run mo n dn sm sS sC fB gT c) (g_R_run nn n dn dn sC sS co ra rb rc im hf rz fM gU d) := by
  have e2 : (2000 : Int32).toInt = 2000 := by decide
  intro n
  induction n with
  | zero =>
    intro dn sm sS sC fB gT c co ra rb rc im hf rz fM gU d _ _ _ hQ hM hT hG
    exact ⟨rfl, rfl, rfl, hM, hT, hQ, hG⟩
  | succ n ih =>
    intro dn sm sS sC fB gT c co ra rb rc im hf rz fM gU d h0 hn hz hQ hM hT hG
    have hend : RnQ (dn, sS, sC, fB, gT, c) (dn, sC, sS, co, ra, rb, rc, im, hf, rz, fM, gU, d) := ⟨rfl, rfl, rfl, hM, hT, hQ, hG⟩
    have e1 : (dn + (1 : Int32)).toInt = dn.toInt + 1 := by
      have e1' : (1 : Int32).toInt = 1 := by decide
      exact (ad_s (x := dn) (y := 1) (by omega) (by omega)).trans (by omega)
    unfold g_M_run g_R_run
    by_cases h1 : nn ≤ dn
    · have hm1 : mo ≤ dn := by
        rw [hmo]
        split
        · rename_i q
          rw [Int32.lt_iff_toInt_lt] at q
          rw [Int32.le_iff_toInt_le] at h1 ⊢
          omega
        · exact h1
      rw [if_pos hm1, if_pos h1]
      exact hend
    · rw [if_neg h1]
      by_cases h2 : (2000 : Int32) ≤ dn
      · have hm1 : mo ≤ dn := by
          rw [hmo]
          split
          · exact h2
          · rename_i q
            rw [Int32.lt_iff_toInt_lt] at q
            rw [Int32.le_iff_toInt_le] at h2 ⊢
            omega
        rw [if_pos hm1, if_pos h2]
        exact hend
      · have hm1 : ¬ mo ≤ dn := by
          rw [hmo]
          split
          · exact h2
          · exact h1
        rw [if_neg hm1, if_neg h2]
        cases sm with
        | false =>
          subst hz
          rw [if_neg Bool.false_ne_true]
          by_cases h3 : sS = 0
          · rw [if_pos h3, if_pos (by decide : (!false) = true)]
            exact hend
          · rw [if_neg h3]
            exact hend
        | true =>
          subst hz
          rw [if_pos rfl]
          by_cases h3 : sS = 0
          · rw [if_pos h3, if_pos h3, if_neg (by decide : ¬ (!true) = true)]
            obtain ⟨q1, q2, q3 | q3⟩ := st_sim hQ hM hT hG sS sC co ra rb rc im hf
            · obtain ⟨p1, p2, p3, p4, p5, p6⟩ := q3
              rw [if_pos p1, p2, p3, p4]
              exact ih (dn + (1 : Int32)) true _ sC _ _ _ _ _ _ _ _ _ _ _ _ _ (by omega) (by omega) rfl p5 q1 q2 p6
            · obtain ⟨p1, p2, p3, p4, p5, p6⟩ := q3
              rw [if_neg p1, p2, p3, p4]
              exact ih (dn + (1 : Int32)) false _ _ _ _ _ _ _ _ _ _ _ _ _ _ _ (by omega) (by omega) rfl p5 q1 q2 p6
          · rw [if_neg h3, if_neg h3]
            exact hend
