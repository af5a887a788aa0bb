-- further instructions, side by side
section Ops2
variable {fB fM : Nat → Int32} {gT gU : Nat → Bool} {c d : Nat → Cp} {a b g : Int32}
theorem an_r (x y : Int32) (h0 : 0 ≤ x.toInt) (h1 : x.toInt ≤ 255) : 0 ≤ (x &&& y).toInt ∧ (x &&& y).toInt ≤ 255 := by
  have hx : x = nI x.toInt.toNat := Int32.toInt_inj.mp (by rw [nI_toInt (by omega)]; omega)
  have e : (x &&& y).toBitVec.toNat = x.toInt.toNat &&& y.toBitVec.toNat := by
    rw [Int32.toBitVec_and, BitVec.toNat_and]
    congr 1
    conv => lhs; rw [hx]
    show (BitVec.ofNat 32 _).toNat = _
    rw [BitVec.toNat_ofNat]
    exact Nat.mod_eq_of_lt (by omega)
  have hle : x.toInt.toNat &&& y.toBitVec.toNat ≤ x.toInt.toNat := Nat.and_le_left
  have e2 : (x &&& y).toInt = ((x &&& y).toBitVec.toNat : Int) := by
    show (x &&& y).toBitVec.toInt = _
    exact BitVec.toInt_eq_toNat_of_lt (by omega)
  rw [e2, e]
  omega
theorem s_12 (hQ : Qr c d) (hM : Mr fB fM) (hT : Tr gT gU) (hG : Gr c) (ha : a.toNatClampNeg < 8) (hb : b.toNatClampNeg < 8) (hg : g.toNatClampNeg < 8) (iv hf : Int32) : Sim fB gT c d (f_M_compute fB gT c 12 a.toNatClampNeg b.toNatClampNeg g.toNatClampNeg iv) (f_R_exception 12 a b g iv d) (f_R_doIt 12 a b g iv hf fM gU d) := by
  have hb' : b.toNatClampNeg < 11 := by omega
  have hg' : g.toNatClampNeg < 11 := by omega
  have hG' := hG.to hQ
  have e1 : f_M_compute fB gT c 12 a.toNatClampNeg b.toNatClampNeg g.toNatClampNeg iv = ((f_M_withPermissions c a.toNatClampNeg b.toNatClampNeg (k_a (c g.toNatClampNeg))).1, fB, gT, (f_M_withPermissions c a.toNatClampNeg b.toNatClampNeg (k_a (c g.toNatClampNeg))).2) := rfl
  have e2 : f_R_exception 12 a b g iv d = f_R_loose d b := rfl
  have e3 : f_R_doIt 12 a b g iv hf fM gU d = (fM, gU, f_R_move (f_R_copy (va_up (f_R_copy d b 11) ((11 : Int32).toNatClampNeg) (s_p ((f_R_copy d b 11) ((11 : Int32).toNatClampNeg)) (k_p ((f_R_copy d b 11) ((11 : Int32).toNatClampNeg)) &&& k_a ((f_R_copy d b 11) g.toNatClampNeg)))) 11 a) 8 (k_a (d ((8 : Int32).toNatClampNeg)) + 4 + 0)) := rfl
  have e4 : va_up (f_K_become c a.toNatClampNeg b.toNatClampNeg) a.toNatClampNeg (s_p ((f_K_become c a.toNatClampNeg b.toNatClampNeg) a.toNatClampNeg) (k_p ((f_K_become c a.toNatClampNeg b.toNatClampNeg) b.toNatClampNeg) &&& k_a (c g.toNatClampNeg))) = va_up c a.toNatClampNeg (s_p (c b.toNatClampNeg) (k_p (c b.toNatClampNeg) &&& k_a (c g.toNatClampNeg))) := by
    rw [cf_become, bx_uu, va_up_self]
    by_cases e : b.toNatClampNeg = a.toNatClampNeg
    · rw [e, va_up_self]
    · rw [va_up_ne _ _ e]
  by_cases h : k_v (c b.toNatClampNeg) = true ∧ ¬ k_y (c b.toNatClampNeg) = 0
  · have e5 : f_M_withPermissions c a.toNatClampNeg b.toNatClampNeg (k_a (c g.toNatClampNeg)) = (2, c) := by
      unfold f_M_withPermissions
      rw [if_pos h.1, if_neg h.2]
    rw [e1, e5, e2]
    rw [hQ _ hb'] at h
    exact sm_no 2 (by decide) (lo_no (hG' _ hb') h.1 h.2) rfl
  · have h' : k_v (c b.toNatClampNeg) = true → k_y (c b.toNatClampNeg) = 0 := fun z => Classical.byContradiction fun q => h ⟨z, q⟩
    have e5 : f_M_withPermissions c a.toNatClampNeg b.toNatClampNeg (k_a (c g.toNatClampNeg)) = (0, va_up c a.toNatClampNeg (s_p (c b.toNatClampNeg) (k_p (c b.toNatClampNeg) &&& k_a (c g.toNatClampNeg)))) := by
      unfold f_M_withPermissions
      rw [e4]
      by_cases hv : k_v (c b.toNatClampNeg) = true
      · rw [if_pos hv, if_pos (h' hv)]
      · rw [if_neg hv]
    rw [e1, e5]
    have hr := hG _ hb'
    have q := an_r (k_p (c b.toNatClampNeg)) (k_a (c g.toNatClampNeg)) hr.2.2.2.2.1 hr.2.2.2.2.2.1
    refine sm_up (i := a.toNatClampNeg) hM hT hG (by omega) (rg_sp hr q.1 q.2) ?_ rfl (q_z hQ _) ?_
    · rw [e2]
      exact lo_ok (by rw [← hQ _ hb']; exact h')
    · rw [e3, dr_z hb' ha, dr_at hb', dr_ne hb' hg', ← hQ _ hb', ← hQ _ hg']
-- a capability with another type comes to a
theorem ty_up (i j : Nat) (y : Int32) : va_up (f_K_become c i j) i (s_y ((f_K_become c i j) i) y) = va_up c i (s_y (c j) y) := by rw [cf_become, bx_uu, va_up_self]
theorem pm_eq (hQ : Qr c d) (hb : b.toNatClampNeg < 11) (n : Int32) : f_R_may d b n = f_K_permits c b.toNatClampNeg n := by
  unfold f_R_may f_K_permits
  rw [hQ _ hb]
theorem pt_eq (hQ : Qr c d) (hb : b.toNatClampNeg < 11) : f_R_points d b = f_K_hasAddressInBounds c b.toNatClampNeg := by
  unfold f_R_points f_K_hasAddressInBounds
  rw [hQ _ hb]
theorem s_15 (hQ : Qr c d) (hM : Mr fB fM) (hT : Tr gT gU) (hG : Gr c) (ha : a.toNatClampNeg < 8) (hb : b.toNatClampNeg < 8) (iv hf : Int32) (j3 : Nat) : Sim fB gT c d (f_M_compute fB gT c 15 a.toNatClampNeg b.toNatClampNeg j3 iv) (f_R_exception 15 a b g iv d) (f_R_doIt 15 a b g iv hf fM gU d) := by
  have hb' : b.toNatClampNeg < 11 := by omega
  have hr := hG _ hb'
  have e1 : f_M_compute fB gT c 15 a.toNatClampNeg b.toNatClampNeg j3 iv = ((f_M_makeEntry c a.toNatClampNeg b.toNatClampNeg).1, fB, gT, (f_M_makeEntry c a.toNatClampNeg b.toNatClampNeg).2) := rfl
  have e2 : f_R_exception 15 a b g iv d = (if f_R_usable d b ≤ 0 then (if f_R_may d b 4 = true then 0 else 3) else f_R_usable d b) := rfl
  have e3 : f_R_doIt 15 a b g iv hf fM gU d = (fM, gU, f_R_move (f_R_copy (va_up (f_R_copy d b 11) ((11 : Int32).toNatClampNeg) (s_y ((f_R_copy d b 11) ((11 : Int32).toNatClampNeg)) 1)) 11 a) 8 (k_a (d ((8 : Int32).toNatClampNeg)) + 4 + 0)) := rfl
  have e4 : f_R_usable d b = if k_v (c b.toNatClampNeg) = true then (if k_y (c b.toNatClampNeg) ≤ 0 then 0 else 2) else 1 := by
    unfold f_R_usable
    rw [hQ _ hb']
  rw [pm_eq hQ hb', e4] at e2
  unfold f_M_makeEntry at e1
  rw [ty_up] at e1
  by_cases hv : k_v (c b.toNatClampNeg) = true
  · rw [if_pos hv] at e1 e2
    by_cases hy : k_y (c b.toNatClampNeg) = 0
    · rw [if_pos hy] at e1
      rw [if_pos ((y_le hr).mpr hy), if_pos (by decide : (0 : Int32) ≤ 0)] at e2
      by_cases hp : f_K_permits c b.toNatClampNeg 4 = true
      · rw [if_pos hp] at e1 e2
        rw [e1]
        refine sm_up (i := a.toNatClampNeg) hM hT hG (by omega) (rg_sy hr (y := 1) (by decide) (by decide)) e2 rfl (q_z hQ _) ?_
        rw [e3, dr_z hb' ha, dr_at hb', ← hQ _ hb']
      · rw [if_neg hp] at e1 e2
        exact sm_no 3 (by decide) e2 e1
    · rw [if_neg hy] at e1
      rw [if_neg (fun z => hy ((y_le hr).mp z)), if_neg (by decide : ¬ (2 : Int32) ≤ 0)] at e2
      exact sm_no 2 (by decide) e2 e1
  · rw [if_neg hv] at e1 e2
    rw [if_neg (by decide : ¬ (1 : Int32) ≤ 0)] at e2
    exact sm_no 1 (by decide) e2 e1
theorem s_13 (hQ : Qr c d) (hM : Mr fB fM) (hT : Tr gT gU) (hG : Gr c) (ha : a.toNatClampNeg < 8) (hb : b.toNatClampNeg < 8) (hg : g.toNatClampNeg < 8) (iv hf : Int32) : Sim fB gT c d (f_M_compute fB gT c 13 a.toNatClampNeg b.toNatClampNeg g.toNatClampNeg iv) (f_R_exception 13 a b g iv d) (f_R_doIt 13 a b g iv hf fM gU d) := by
  have hb' : b.toNatClampNeg < 11 := by omega
  have hg' : g.toNatClampNeg < 11 := by omega
  have hr := hG _ hb'
  have hr' := hG _ hg'
  have e1 : f_M_compute fB gT c 13 a.toNatClampNeg b.toNatClampNeg g.toNatClampNeg iv = ((f_M_seal c a.toNatClampNeg b.toNatClampNeg g.toNatClampNeg).1, fB, gT, (f_M_seal c a.toNatClampNeg b.toNatClampNeg g.toNatClampNeg).2) := rfl
  have e2 : f_R_exception 13 a b g iv d = f_R_forSeal b g d := rfl
  have e3 : f_R_doIt 13 a b g iv hf fM gU d = (fM, gU, f_R_move (f_R_copy (va_up (f_R_copy d b 11) ((11 : Int32).toNatClampNeg) (s_y ((f_R_copy d b 11) ((11 : Int32).toNatClampNeg)) (k_a ((f_R_copy d b 11) g.toNatClampNeg)))) 11 a) 8 (k_a (d ((8 : Int32).toNatClampNeg)) + 4 + 0)) := rfl
  unfold f_R_forSeal at e2
  rw [pm_eq hQ hg', pt_eq hQ hg', ← hQ _ hb', ← hQ _ hg'] at e2
  unfold f_M_seal at e1
  rw [ty_up] at e1
  by_cases hv : k_v (c b.toNatClampNeg) = true
  · rw [if_pos hv] at e1 e2
    by_cases hw : k_v (c g.toNatClampNeg) = true
    · rw [if_pos hw] at e1 e2
      by_cases hy : k_y (c b.toNatClampNeg) = 0
      · rw [if_pos hy] at e1
        rw [if_neg (show ¬ (0 : Int32) < k_y (c b.toNatClampNeg) by rw [hy]; decide)] at e2
        by_cases hz : k_y (c g.toNatClampNeg) = 0
        · rw [if_pos hz] at e1
          rw [if_pos ((y_le hr').mpr hz)] at e2
          by_cases hp : f_K_permits c g.toNatClampNeg 32 = true
          · rw [if_pos hp] at e1 e2
            by_cases hi : f_K_hasAddressInBounds c g.toNatClampNeg = true
            · rw [if_pos hi] at e1 e2
              have x1 : (1 : Int32).toInt = 1 := by decide
              have x2 : (2 : Int32).toInt = 2 := by decide
              have x15 : (15 : Int32).toInt = 15 := by decide
              unfold f_R_outside at e2
              by_cases h1 : k_a (c g.toNatClampNeg) ≤ 1
              · rw [if_pos h1] at e1
                have h2 : k_a (c g.toNatClampNeg) < 2 := by
                  rw [Int32.le_iff_toInt_le] at h1
                  rw [Int32.lt_iff_toInt_lt]
                  omega
                rw [if_pos h2, if_pos rfl] at e2
                exact sm_no 7 (by decide) e2 e1
              · rw [if_neg h1] at e1
                have h2 : ¬ k_a (c g.toNatClampNeg) < 2 := by
                  rw [Int32.le_iff_toInt_le] at h1
                  rw [Int32.lt_iff_toInt_lt]
                  omega
                rw [if_neg h2] at e2
                by_cases h3 : k_a (c g.toNatClampNeg) ≤ 15
                · rw [if_pos h3] at e1 e2
                  rw [if_neg Bool.false_ne_true] at e2
                  rw [e1]
                  rw [Int32.le_iff_toInt_le] at h3
                  rw [Int32.lt_iff_toInt_lt] at h2
                  refine sm_up (i := a.toNatClampNeg) hM hT hG (by omega) (rg_sy hr (y := k_a (c g.toNatClampNeg)) (by omega) (by omega)) e2 rfl (q_z hQ _) ?_
                  rw [e3, dr_z hb' ha, dr_at hb', dr_ne hb' hg', ← hQ _ hb', ← hQ _ hg']
                · rw [if_neg h3] at e1 e2
                  rw [if_pos rfl] at e2
                  exact sm_no 7 (by decide) e2 e1
            · rw [if_neg hi] at e1 e2
              exact sm_no 4 (by decide) e2 e1
          · rw [if_neg hp] at e1 e2
            exact sm_no 3 (by decide) e2 e1
        · rw [if_neg hz] at e1
          rw [if_neg (fun z => hz ((y_le hr').mp z))] at e2
          exact sm_no 2 (by decide) e2 e1
      · rw [if_neg hy] at e1
        have h0 : (0 : Int32) < k_y (c b.toNatClampNeg) := by
          have hn : ¬ k_y (c b.toNatClampNeg) ≤ 0 := fun z => hy ((y_le hr).mp z)
          rw [Int32.le_iff_toInt_le] at hn
          rw [Int32.lt_iff_toInt_lt]
          omega
        rw [if_pos h0] at e2
        exact sm_no 2 (by decide) e2 e1
    · rw [if_neg hw] at e1 e2
      exact sm_no 1 (by decide) e2 e1
  · rw [if_neg hv] at e1 e2
    exact sm_no 1 (by decide) e2 e1
theorem s_14 (hQ : Qr c d) (hM : Mr fB fM) (hT : Tr gT gU) (hG : Gr c) (ha : a.toNatClampNeg < 8) (hb : b.toNatClampNeg < 8) (hg : g.toNatClampNeg < 8) (iv hf : Int32) : Sim fB gT c d (f_M_compute fB gT c 14 a.toNatClampNeg b.toNatClampNeg g.toNatClampNeg iv) (f_R_exception 14 a b g iv d) (f_R_doIt 14 a b g iv hf fM gU d) := by
  have hb' : b.toNatClampNeg < 11 := by omega
  have hg' : g.toNatClampNeg < 11 := by omega
  have hr := hG _ hb'
  have hr' := hG _ hg'
  have e1 : f_M_compute fB gT c 14 a.toNatClampNeg b.toNatClampNeg g.toNatClampNeg iv = ((f_M_unseal c a.toNatClampNeg b.toNatClampNeg g.toNatClampNeg).1, fB, gT, (f_M_unseal c a.toNatClampNeg b.toNatClampNeg g.toNatClampNeg).2) := rfl
  have e2 : f_R_exception 14 a b g iv d = f_R_forUnseal b g d := rfl
  have e3 : f_R_doIt 14 a b g iv hf fM gU d = (fM, gU, f_R_move (f_R_copy (va_up (f_R_copy d b 11) ((11 : Int32).toNatClampNeg) (s_y ((f_R_copy d b 11) ((11 : Int32).toNatClampNeg)) 0)) 11 a) 8 (k_a (d ((8 : Int32).toNatClampNeg)) + 4 + 0)) := rfl
  unfold f_R_forUnseal at e2
  rw [pm_eq hQ hg', pt_eq hQ hg', ← hQ _ hb', ← hQ _ hg'] at e2
  unfold f_M_unseal at e1
  rw [ty_up] at e1
  by_cases hv : k_v (c b.toNatClampNeg) = true
  · rw [if_pos hv] at e1 e2
    by_cases hw : k_v (c g.toNatClampNeg) = true
    · rw [if_pos hw] at e1 e2
      have x1 : (1 : Int32).toInt = 1 := by decide
      have x2 : (2 : Int32).toInt = 2 := by decide
      by_cases hy : k_y (c b.toNatClampNeg) ≤ 1
      · have hy2 : k_y (c b.toNatClampNeg) < 2 := by
          rw [Int32.le_iff_toInt_le] at hy
          rw [Int32.lt_iff_toInt_lt]
          omega
        rw [if_pos hy] at e1
        rw [if_pos hy2] at e2
        exact sm_no 2 (by decide) e2 e1
      · have hy2 : ¬ k_y (c b.toNatClampNeg) < 2 := by
          rw [Int32.le_iff_toInt_le] at hy
          rw [Int32.lt_iff_toInt_lt]
          omega
        rw [if_neg hy] at e1
        rw [if_neg hy2] at e2
        by_cases hz : k_y (c g.toNatClampNeg) = 0
        · rw [if_pos hz] at e1
          rw [if_pos ((y_le hr').mpr hz)] at e2
          by_cases hk : k_a (c g.toNatClampNeg) = k_y (c b.toNatClampNeg)
          · rw [if_pos hk] at e1 e2
            by_cases hp : f_K_permits c g.toNatClampNeg 64 = true
            · rw [if_pos hp] at e1 e2
              by_cases hi : f_K_hasAddressInBounds c g.toNatClampNeg = true
              · rw [if_pos hi] at e1 e2
                rw [e1]
                refine sm_up (i := a.toNatClampNeg) hM hT hG (by omega) (rg_sy hr (y := 0) (by decide) (by decide)) e2 rfl (q_z hQ _) ?_
                rw [e3, dr_z hb' ha, dr_at hb', ← hQ _ hb']
              · rw [if_neg hi] at e1 e2
                exact sm_no 4 (by decide) e2 e1
            · rw [if_neg hp] at e1 e2
              exact sm_no 3 (by decide) e2 e1
          · rw [if_neg hk] at e1 e2
            exact sm_no 7 (by decide) e2 e1
        · rw [if_neg hz] at e1
          rw [if_neg (fun z => hz ((y_le hr').mp z))] at e2
          exact sm_no 2 (by decide) e2 e1
    · rw [if_neg hw] at e1 e2
      exact sm_no 1 (by decide) e2 e1
  · rw [if_neg hv] at e1 e2
    exact sm_no 1 (by decide) e2 e1
theorem s_29 (hQ : Qr c d) (hM : Mr fB fM) (hT : Tr gT gU) (hG : Gr c) (ha : a.toNatClampNeg < 8) (hb : b.toNatClampNeg < 8) (iv hf : Int32) (j3 : Nat) : Sim fB gT c d (f_M_compute fB gT c 29 a.toNatClampNeg b.toNatClampNeg j3 iv) (f_R_exception 29 a b g iv d) (f_R_doIt 29 a b g iv hf fM gU d) := by
  have hb' : b.toNatClampNeg < 11 := by omega
  have hr := hG _ hb'
  have e1 : f_M_compute fB gT c 29 a.toNatClampNeg b.toNatClampNeg j3 iv = (0, fB, gT, va_up (f_K_become c a.toNatClampNeg b.toNatClampNeg) a.toNatClampNeg (s_v ((f_K_become c a.toNatClampNeg b.toNatClampNeg) a.toNatClampNeg) false)) := rfl
  have e3 : f_R_doIt 29 a b g iv hf fM gU d = (fM, gU, f_R_move (f_R_copy (va_up (f_R_copy d b 11) ((11 : Int32).toNatClampNeg) (s_v ((f_R_copy d b 11) ((11 : Int32).toNatClampNeg)) false)) 11 a) 8 (k_a (d ((8 : Int32).toNatClampNeg)) + 4 + 0)) := rfl
  rw [cf_become, bx_uu, va_up_self] at e1
  rw [e1]
  refine sm_up (i := a.toNatClampNeg) hM hT hG (by omega) (rg_sv hr false) rfl rfl (q_z hQ _) ?_
  rw [e3, dr_z hb' ha, dr_at hb', ← hQ _ hb']
end Ops2
