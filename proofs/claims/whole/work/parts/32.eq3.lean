-- both sides side by side: the eleven slots, the bytes, the tags
def Qr (c d : Nat → Cp) : Prop := ∀ i, i < 11 → c i = d i
def Mr (f g : Nat → Int32) : Prop := ∀ k, k < 512 → f k &&& 255 = g k
def Tr (f g : Nat → Bool) : Prop := ∀ k, k < 64 → f k = g k
def Gr (c : Nat → Cp) : Prop := ∀ i, i < 11 → Rg (c i)
theorem Qr.up {c d : Nat → Cp} (h : Qr c d) (i : Nat) (z : Cp) : Qr (va_up c i z) (va_up d i z) := by
  intro j hj
  by_cases e : j = i
  · subst e
    rw [va_up_self, va_up_self]
  · rw [va_up_ne _ _ e, va_up_ne _ _ e]
    exact h j hj
theorem Qr.r {c d : Nat → Cp} (h : Qr c d) (z : Cp) : Qr c (va_up d 11 z) := fun j hj => by
  rw [va_up_ne _ _ (by omega)]
  exact h j hj
theorem Qr.l {c d : Nat → Cp} (h : Qr c d) (z : Cp) : Qr (va_up c 11 z) d := fun j hj => by
  rw [va_up_ne _ _ (by omega)]
  exact h j hj
theorem Gr.up {c : Nat → Cp} (h : Gr c) {i : Nat} {z : Cp} (hz : Rg z) : Gr (va_up c i z) := by
  intro j hj
  by_cases e : j = i
  · subst e
    rw [va_up_self]
    exact hz
  · rw [va_up_ne _ _ e]
    exact h j hj
theorem Gr.to {c d : Nat → Cp} (h : Gr c) (q : Qr c d) : Gr d := fun i hi => by rw [← q i hi]; exact h i hi
theorem rg_mv {z : Cp} (h : Rg z) (n : Int32) : Rg (mvc z n) := h
theorem rg_nm (n : Int32) : Rg (nmc n) := (by decide : 0 ≤ (0 : Int32).toInt ∧ (0 : Int32).toInt ≤ 1023 ∧ 0 ≤ (0 : Int32).toInt ∧ (0 : Int32).toInt ≤ 1023 ∧ 0 ≤ (0 : Int32).toInt ∧ (0 : Int32).toInt ≤ 255 ∧ 0 ≤ (0 : Int32).toInt ∧ (0 : Int32).toInt ≤ 15)
theorem rg_sv {z : Cp} (h : Rg z) (v : Bool) : Rg (s_v z v) := h
theorem rg_sy {z : Cp} (h : Rg z) {y : Int32} (h0 : 0 ≤ y.toInt) (h1 : y.toInt ≤ 15) : Rg (s_y z y) := by
  obtain ⟨a1, a2, a3, a4, a5, a6, -, -⟩ := h
  exact ⟨a1, a2, a3, a4, a5, a6, h0, h1⟩
theorem rg_sp {z : Cp} (h : Rg z) {y : Int32} (h0 : 0 ≤ y.toInt) (h1 : y.toInt ≤ 255) : Rg (s_p z y) := by
  obtain ⟨a1, a2, a3, a4, -, -, a7, a8⟩ := h
  exact ⟨a1, a2, a3, a4, h0, h1, a7, a8⟩
theorem y_le {z : Cp} (h : Rg z) : (k_y z ≤ 0 ↔ k_y z = 0) := by
  obtain ⟨-, -, -, -, -, -, y0, -⟩ := h
  have e0 : (0 : Int32).toInt = 0 := by decide
  constructor
  · intro q
    rw [Int32.le_iff_toInt_le] at q
    exact Int32.toInt_inj.mp (by omega)
  · intro q
    rw [q]
    decide
theorem n8 : (8 : Int32).toNatClampNeg = 8 := by decide
theorem n9 : (9 : Int32).toNatClampNeg = 9 := by decide
theorem n10 : (10 : Int32).toNatClampNeg = 10 := by decide
theorem n11 : (11 : Int32).toNatClampNeg = 11 := by decide
/-- a step of both sides behind the fetching, but for the moving on: no exception and the same, or the same exception and nothing done -/
def Sim (fB : Nat → Int32) (gT : Nat → Bool) (c d : Nat → Cp) (R : Int32 × (Nat → Int32) × (Nat → Bool) × (Nat → Cp)) (E : Int32) (Z : (Nat → Int32) × (Nat → Bool) × (Nat → Cp)) : Prop :=
  (E = 0 ∧ ∃ (f1 : Nat → Int32) (g1 : Nat → Bool) (c1 : Nat → Cp) (f2 : Nat → Int32) (g2 : Nat → Bool) (d2 : Nat → Cp), R = (0, f1, g1, c1) ∧ Z = (f2, g2, f_R_move d2 8 (k_a (d ((8 : Int32).toNatClampNeg)) + 4 + 0)) ∧ Mr f1 f2 ∧ Tr g1 g2 ∧ Qr c1 d2 ∧ c1 8 = c 8 ∧ Gr c1) ∨ (¬ E ≤ 0 ∧ R = (E, fB, gT, c))
section Ops
variable {fB fM : Nat → Int32} {gT gU : Nat → Bool} {c d : Nat → Cp} {a b g : Int32}
theorem sm_up {R : Int32 × (Nat → Int32) × (Nat → Bool) × (Nat → Cp)} {E : Int32} {Z : (Nat → Int32) × (Nat → Bool) × (Nat → Cp)} (hM : Mr fB fM) (hT : Tr gT gU) (hG : Gr c) {i : Nat} (hi : ¬ 8 = i) {z : Cp} (hz : Rg z) (hE : E = 0) (hR : R = (0, fB, gT, va_up c i z)) {d2 : Nat → Cp} (hd : Qr (va_up c i z) d2) (hZ : Z = (fM, gU, f_R_move d2 8 (k_a (d ((8 : Int32).toNatClampNeg)) + 4 + 0))) : Sim fB gT c d R E Z :=
  Or.inl ⟨hE, fB, gT, _, fM, gU, d2, hR, hZ, hM, hT, hd, va_up_ne _ _ hi, hG.up hz⟩
theorem sm_no {R : Int32 × (Nat → Int32) × (Nat → Bool) × (Nat → Cp)} {E : Int32} {Z : (Nat → Int32) × (Nat → Bool) × (Nat → Cp)} (k : Int32) (hk : ¬ k ≤ 0) (hE : E = k) (hR : R = (k, fB, gT, c)) : Sim fB gT c d R E Z := Or.inr ⟨by rw [hE]; exact hk, by rw [hE]; exact hR⟩
/-- derive: what was made at 11 comes to a -/
theorem dr_cp (X : Nat → Cp) (ha : a.toNatClampNeg < 8) : f_R_copy X 11 a = va_up X a.toNatClampNeg (X 11) := by
  rw [rf_copy X (r0 := 11) (r1 := a) (by rw [n11]; omega), n11]
theorem dr_in (hb : b.toNatClampNeg < 11) : f_R_copy d b 11 = va_up d 11 (d b.toNatClampNeg) := by
  rw [rf_copy d (r0 := b) (r1 := 11) (by rw [n11]; omega), n11]
theorem dr_mv (hb : b.toNatClampNeg < 11) (ha : a.toNatClampNeg < 8) (hg : Rg (d b.toNatClampNeg)) (n : Int32) : f_R_copy (f_R_move (f_R_copy d b 11) 11 n) 11 a = va_up (va_up d 11 (mvc (d b.toNatClampNeg) n)) a.toNatClampNeg (mvc (d b.toNatClampNeg) n) := by
  rw [dr_in hb, rf_move (r := 11) (by rw [n11, va_up_self]; exact hg), n11, va_up_self, bx_uu, dr_cp _ ha, va_up_self]
theorem dr_z (hb : b.toNatClampNeg < 11) (ha : a.toNatClampNeg < 8) (z : Cp) : f_R_copy (va_up (f_R_copy d b 11) ((11 : Int32).toNatClampNeg) z) 11 a = va_up (va_up d 11 z) a.toNatClampNeg z := by
  rw [dr_in hb, n11, bx_uu, dr_cp _ ha, va_up_self]
theorem dr_at (hb : b.toNatClampNeg < 11) : (f_R_copy d b 11) ((11 : Int32).toNatClampNeg) = d b.toNatClampNeg := by rw [dr_in hb, n11, va_up_self]
theorem dr_ne (hb : b.toNatClampNeg < 11) (hg : g.toNatClampNeg < 11) : (f_R_copy d b 11) g.toNatClampNeg = d g.toNatClampNeg := by rw [dr_in hb, va_up_ne _ _ (by omega)]
theorem q_z {z : Cp} (hQ : Qr c d) (i : Nat) : Qr (va_up c i z) (va_up (va_up d 11 z) i z) := (hQ.r z).up i z
-- numbers
theorem s_num (hQ : Qr c d) (hM : Mr fB fM) (hT : Tr gT gU) (hG : Gr c) (ha : a.toNatClampNeg < 8) (n : Int32) : Sim fB gT c d ((f_M_number c a.toNatClampNeg n).1, fB, gT, (f_M_number c a.toNatClampNeg n).2) 0 (fM, gU, f_R_move (f_R_number d a n) 8 (k_a (d ((8 : Int32).toNatClampNeg)) + 4 + 0)) := by
  rw [rf_number]
  exact sm_up hM hT hG (by omega) (rg_nm n) rfl rfl (hQ.up _ _) rfl
theorem s_2 (hQ : Qr c d) (hM : Mr fB fM) (hT : Tr gT gU) (hG : Gr c) (ha : a.toNatClampNeg < 8) (hb : b.toNatClampNeg < 8) (hg : g.toNatClampNeg < 8) (iv hf : Int32) : Sim fB gT c d (f_M_compute fB gT c 2 a.toNatClampNeg b.toNatClampNeg g.toNatClampNeg iv) (f_R_exception 2 a b g iv d) (f_R_doIt 2 a b g iv hf fM gU d) := by
  have h := s_num (a := a) hQ hM hT hG ha (k_a (c b.toNatClampNeg) + k_a (c g.toNatClampNeg))
  rw [hQ _ (show b.toNatClampNeg < 11 by omega), hQ _ (show g.toNatClampNeg < 11 by omega)] at h
  have e : f_M_compute fB gT c 2 a.toNatClampNeg b.toNatClampNeg g.toNatClampNeg iv = ((f_M_number c a.toNatClampNeg (k_a (c b.toNatClampNeg) + k_a (c g.toNatClampNeg))).1, fB, gT, (f_M_number c a.toNatClampNeg (k_a (c b.toNatClampNeg) + k_a (c g.toNatClampNeg))).2) := rfl
  rw [e, hQ _ (show b.toNatClampNeg < 11 by omega), hQ _ (show g.toNatClampNeg < 11 by omega)]
  exact h
theorem s_3 (hQ : Qr c d) (hM : Mr fB fM) (hT : Tr gT gU) (hG : Gr c) (ha : a.toNatClampNeg < 8) (hb : b.toNatClampNeg < 8) (hg : g.toNatClampNeg < 8) (iv hf : Int32) : Sim fB gT c d (f_M_compute fB gT c 3 a.toNatClampNeg b.toNatClampNeg g.toNatClampNeg iv) (f_R_exception 3 a b g iv d) (f_R_doIt 3 a b g iv hf fM gU d) := by
  have h := s_num (a := a) hQ hM hT hG ha (k_a (d b.toNatClampNeg) - k_a (d g.toNatClampNeg))
  have e : f_M_compute fB gT c 3 a.toNatClampNeg b.toNatClampNeg g.toNatClampNeg iv = ((f_M_number c a.toNatClampNeg (k_a (c b.toNatClampNeg) - k_a (c g.toNatClampNeg))).1, fB, gT, (f_M_number c a.toNatClampNeg (k_a (c b.toNatClampNeg) - k_a (c g.toNatClampNeg))).2) := rfl
  rw [e, hQ _ (show b.toNatClampNeg < 11 by omega), hQ _ (show g.toNatClampNeg < 11 by omega)]
  exact h
-- move
theorem s_7 (hQ : Qr c d) (hM : Mr fB fM) (hT : Tr gT gU) (hG : Gr c) (ha : a.toNatClampNeg < 8) (hb : b.toNatClampNeg < 8) (iv hf : Int32) (j3 : Nat) : Sim fB gT c d (f_M_compute fB gT c 7 a.toNatClampNeg b.toNatClampNeg j3 iv) (f_R_exception 7 a b g iv d) (f_R_doIt 7 a b g iv hf fM gU d) := by
  have hb' : b.toNatClampNeg < 11 := by omega
  have e : f_R_doIt 7 a b g iv hf fM gU d = (fM, gU, f_R_move (f_R_copy (f_R_copy d b 11) 11 a) 8 (k_a (d ((8 : Int32).toNatClampNeg)) + 4 + 0)) := rfl
  have e1 : f_R_copy (f_R_copy d b 11) 11 a = va_up (va_up d 11 (d b.toNatClampNeg)) a.toNatClampNeg (d b.toNatClampNeg) := by rw [dr_in hb', dr_cp _ ha, va_up_self]
  have e0 : f_M_compute fB gT c 7 a.toNatClampNeg b.toNatClampNeg j3 iv = ((f_M_copy c a.toNatClampNeg b.toNatClampNeg).1, fB, gT, (f_M_copy c a.toNatClampNeg b.toNatClampNeg).2) := rfl
  have e2 : f_M_copy c a.toNatClampNeg b.toNatClampNeg = (0, va_up c a.toNatClampNeg (c b.toNatClampNeg)) := by
    unfold f_M_copy
    rw [cf_become]
  rw [e0, e2]
  exact sm_up (i := a.toNatClampNeg) (z := c b.toNatClampNeg) hM hT hG (by omega) (hG _ hb') rfl rfl (q_z hQ _) (by rw [e, e1, ← hQ _ hb'])
-- with another address
theorem wa_ok {i j : Nat} {n : Int32} (h : k_v (c j) = true → k_y (c j) = 0) (hg : Rg (c j)) : f_M_withAddress c i j n = (0, va_up c i (mvc (c j) n)) := by
  have e : f_K_moveTo (f_K_become c i j) i n = va_up c i (mvc (c j) n) := by
    rw [cf_become, cf_moveTo (by rw [va_up_self]; exact hg), va_up_self, bx_uu]
  unfold f_M_withAddress
  rw [e]
  by_cases hv : k_v (c j) = true
  · rw [if_pos hv, if_pos (h hv)]
  · rw [if_neg hv]
theorem wa_no {i j : Nat} {n : Int32} (h1 : k_v (c j) = true) (h2 : ¬ k_y (c j) = 0) : f_M_withAddress c i j n = (2, c) := by
  unfold f_M_withAddress
  rw [if_pos h1, if_neg h2]
theorem lo_ok (h : k_v (d b.toNatClampNeg) = true → k_y (d b.toNatClampNeg) = 0) : f_R_loose d b = 0 := by
  unfold f_R_loose
  by_cases hv : k_v (d b.toNatClampNeg) = true
  · rw [if_pos hv, if_pos (by rw [h hv]; decide)]
  · rw [if_neg hv]
theorem lo_no (hg : Rg (d b.toNatClampNeg)) (h1 : k_v (d b.toNatClampNeg) = true) (h2 : ¬ k_y (d b.toNatClampNeg) = 0) : f_R_loose d b = 2 := by
  unfold f_R_loose
  rw [if_pos h1, if_neg (fun z => h2 ((y_le hg).mp z))]
theorem s_8 (hQ : Qr c d) (hM : Mr fB fM) (hT : Tr gT gU) (hG : Gr c) (ha : a.toNatClampNeg < 8) (hb : b.toNatClampNeg < 8) (hg : g.toNatClampNeg < 8) (iv hf : Int32) : Sim fB gT c d (f_M_compute fB gT c 8 a.toNatClampNeg b.toNatClampNeg g.toNatClampNeg iv) (f_R_exception 8 a b g iv d) (f_R_doIt 8 a b g iv hf fM gU d) := by
  have hb' : b.toNatClampNeg < 11 := by omega
  have hg' : g.toNatClampNeg < 11 := by omega
  have hG' := hG.to hQ
  have e1 : f_M_compute fB gT c 8 a.toNatClampNeg b.toNatClampNeg g.toNatClampNeg iv = ((f_M_withAddress c a.toNatClampNeg b.toNatClampNeg (k_a (c g.toNatClampNeg))).1, fB, gT, (f_M_withAddress c a.toNatClampNeg b.toNatClampNeg (k_a (c g.toNatClampNeg))).2) := rfl
  have e2 : f_R_exception 8 a b g iv d = f_R_loose d b := rfl
  have e3 : f_R_doIt 8 a b g iv hf fM gU d = (fM, gU, f_R_move (f_R_copy (f_R_move (f_R_copy d b 11) 11 (k_a ((f_R_copy d b 11) g.toNatClampNeg))) 11 a) 8 (k_a (d ((8 : Int32).toNatClampNeg)) + 4 + 0)) := rfl
  by_cases h : k_v (c b.toNatClampNeg) = true ∧ ¬ k_y (c b.toNatClampNeg) = 0
  · rw [e1, wa_no h.1 h.2, e2]
    rw [hQ _ hb'] at h
    exact sm_no 2 (by decide) (lo_no (hG' _ hb') h.1 h.2) rfl
  · have h' : k_v (c b.toNatClampNeg) = true → k_y (c b.toNatClampNeg) = 0 := fun z => Classical.byContradiction fun q => h ⟨z, q⟩
    rw [e1, wa_ok h' (hG _ hb')]
    refine sm_up (i := a.toNatClampNeg) hM hT hG (by omega) (rg_mv (hG _ hb') (k_a (c g.toNatClampNeg))) ?_ rfl (q_z hQ _) ?_
    · rw [e2]
      exact lo_ok (by rw [← hQ _ hb']; exact h')
    · rw [e3, dr_ne hb' hg', dr_mv hb' ha (hG' _ hb'), ← hQ _ hb', ← hQ _ hg']
theorem s_9 (hQ : Qr c d) (hM : Mr fB fM) (hT : Tr gT gU) (hG : Gr c) (ha : a.toNatClampNeg < 8) (hb : b.toNatClampNeg < 8) (iv hf : Int32) (j3 : Nat) : Sim fB gT c d (f_M_compute fB gT c 9 a.toNatClampNeg b.toNatClampNeg j3 iv) (f_R_exception 9 a b g iv d) (f_R_doIt 9 a b g iv hf fM gU d) := by
  have hb' : b.toNatClampNeg < 11 := by omega
  have hG' := hG.to hQ
  have e1 : f_M_compute fB gT c 9 a.toNatClampNeg b.toNatClampNeg j3 iv = ((f_M_withAddress c a.toNatClampNeg b.toNatClampNeg (k_a (c b.toNatClampNeg) + iv)).1, fB, gT, (f_M_withAddress c a.toNatClampNeg b.toNatClampNeg (k_a (c b.toNatClampNeg) + iv)).2) := rfl
  have e2 : f_R_exception 9 a b g iv d = f_R_loose d b := rfl
  have e3 : f_R_doIt 9 a b g iv hf fM gU d = (fM, gU, f_R_move (f_R_copy (f_R_move (f_R_copy d b 11) 11 (k_a ((f_R_copy d b 11) b.toNatClampNeg) + iv)) 11 a) 8 (k_a (d ((8 : Int32).toNatClampNeg)) + 4 + 0)) := rfl
  by_cases h : k_v (c b.toNatClampNeg) = true ∧ ¬ k_y (c b.toNatClampNeg) = 0
  · rw [e1, wa_no h.1 h.2, e2]
    rw [hQ _ hb'] at h
    exact sm_no 2 (by decide) (lo_no (hG' _ hb') h.1 h.2) rfl
  · have h' : k_v (c b.toNatClampNeg) = true → k_y (c b.toNatClampNeg) = 0 := fun z => Classical.byContradiction fun q => h ⟨z, q⟩
    rw [e1, wa_ok h' (hG _ hb')]
    refine sm_up (i := a.toNatClampNeg) hM hT hG (by omega) (rg_mv (hG _ hb') (k_a (c b.toNatClampNeg) + iv)) ?_ rfl (q_z hQ _) ?_
    · rw [e2]
      exact lo_ok (by rw [← hQ _ hb']; exact h')
    · rw [e3, dr_ne hb' hb', dr_mv hb' ha (hG' _ hb'), ← hQ _ hb']
theorem s_31 (hQ : Qr c d) (hM : Mr fB fM) (hT : Tr gT gU) (hG : Gr c) (ha : a.toNatClampNeg < 8) (h8 : k_y (c 8) = 0) (iv hf : Int32) (j2 j3 : Nat) : Sim fB gT c d (f_M_compute fB gT c 31 a.toNatClampNeg j2 j3 iv) (f_R_exception 31 a b g iv d) (f_R_doIt 31 a b g iv hf fM gU d) := by
  have hG' := hG.to hQ
  have hb' : (8 : Int32).toNatClampNeg < 11 := by decide
  have q8 := hQ 8 (by decide)
  have e1 : f_M_compute fB gT c 31 a.toNatClampNeg j2 j3 iv = ((f_M_withAddress c a.toNatClampNeg 8 (k_a (c 8) + 4 * iv)).1, fB, gT, (f_M_withAddress c a.toNatClampNeg 8 (k_a (c 8) + 4 * iv)).2) := rfl
  have e3 : f_R_doIt 31 a b g iv hf fM gU d = (fM, gU, f_R_move (f_R_copy (f_R_move (f_R_copy d 8 11) 11 (k_a ((f_R_copy d 8 11) ((8 : Int32).toNatClampNeg)) + 4 * iv)) 11 a) 8 (k_a (d ((8 : Int32).toNatClampNeg)) + 4 + 0)) := rfl
  rw [e1, wa_ok (fun _ => h8) (hG 8 (by decide))]
  refine sm_up (i := a.toNatClampNeg) hM hT hG (by omega) (rg_mv (hG 8 (by decide)) (k_a (c 8) + 4 * iv)) rfl rfl (q_z hQ _) ?_
  rw [e3, dr_ne hb' hb', dr_mv hb' ha (hG' _ hb'), n8, q8]
end Ops
