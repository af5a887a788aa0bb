-- the other calls, side by side
section EqCalls
variable {fB fM : Nat → Int32} {gT gU : Nat → Bool} {c d : Nat → Cp}
theorem le_nl (a b : Int32) : (a ≤ b) = ¬ (b < a) := propext Int32.not_lt.symm
theorem q_up (h : Qr c d) (i : Nat) (z : Cp) : Qr (va_up c i z) (va_up d i z) := fun j hj => by
  by_cases hi : j = i
  · rw [hi, va_up_self, va_up_self]
  · rw [va_up_ne _ _ hi, va_up_ne _ _ hi]; exact h j hj
theorem g_up (h : Gr c) (i : Nat) {z : Cp} (hz : Rg z) : Gr (va_up c i z) := fun j hj => by
  by_cases hi : j = i
  · rw [hi, va_up_self]; exact hz
  · rw [va_up_ne _ _ hi]; exact h j hj
theorem rg_new {b t a p : Int32} (h1 : ¬ b < 0) (h2 : ¬ t < b) (h3 : ¬ 512 < t) (h4 : ¬ p < 0) (h5 : ¬ 255 < p) : Rg (true, b, t, p, 0, a) := by
  rw [Int32.lt_iff_toInt_lt] at h1 h2 h3 h4 h5
  have e0 : (0 : Int32).toInt = 0 := by decide
  have e1 : (512 : Int32).toInt = 512 := by decide
  have e2 : (255 : Int32).toInt = 255 := by decide
  show 0 ≤ b.toInt ∧ b.toInt ≤ 1023 ∧ 0 ≤ t.toInt ∧ t.toInt ≤ 1023 ∧ 0 ≤ p.toInt ∧ p.toInt ≤ 255 ∧ 0 ≤ (0 : Int32).toInt ∧ (0 : Int32).toInt ≤ 15
  omega
theorem eq_grant (hQ : Qr c d) (hG : Gr c) (sS r b t a p : Int32) :
    (f_R_grant sS d r b t a p).1 = (if (f_M_grant sS c r b t a p).1 = true then (0 : Int32) else 1) ∧ (f_R_grant sS d r b t a p).2.1 = (f_M_grant sS c r b t a p).2.1 ∧ Qr (f_M_grant sS c r b t a p).2.2 (f_R_grant sS d r b t a p).2.2 ∧ Gr (f_M_grant sS c r b t a p).2.2 := by
  have n1 : ¬ (1 : Int32) ≤ 0 := by decide
  have n0 : (0 : Int32) ≤ 0 := by decide
  unfold f_M_grant f_R_grant f_R_outside
  simp only [le_nl]
  by_cases h1 : r < 0
  · simp [h1, b2i, hQ, hG]
  by_cases h2 : 9 < r
  · simp [h1, h2, b2i, hQ, hG]
  by_cases h3 : b < 0
  · simp [h1, h2, h3, b2i, hQ, hG]
  by_cases h4 : t < b
  · simp [h1, h2, h3, h4, b2i, hQ, hG]
  by_cases h5 : 512 < t
  · simp [h1, h2, h3, h4, h5, b2i, hQ, hG]
  by_cases h6 : p < 0
  · simp [h1, h2, h3, h4, h5, h6, b2i, hQ, hG]
  by_cases h7 : 255 < p
  · simp [h1, h2, h3, h4, h5, h6, h7, b2i, hQ, hG]
  simp only [h1, h2, h3, h4, h5, h6, h7, if_true, if_false, Bool.false_eq_true, not_false_eq_true, b2i]
  refine ⟨by simp, by simp, ?_, ?_⟩
  · simp only [cf_granted, rf_set]
    exact q_up hQ _ _
  · simp only [cf_granted]
    exact g_up hG _ (rg_new h3 h4 h5 h6 h7)
theorem eq_poke (hM : Mr fB fM) (hT : Tr gT gU) (x w b : Int32) :
    (f_R_poke fM gU x w b).1 = (if (f_M_poke fB gT x w b).1 = true then (0 : Int32) else 1) ∧ Mr (f_M_poke fB gT x w b).2.1 (f_R_poke fM gU x w b).2.1 ∧ Tr (f_M_poke fB gT x w b).2.2 (f_R_poke fM gU x w b).2.2 := by
  unfold f_M_poke f_R_poke f_R_outside
  by_cases h1 : b < 1
  · simp [h1, b2i, hM, hT]
  by_cases h2 : 4 < b
  · have h2' : ¬ b ≤ 4 := by rw [le_nl]; exact fun h => h h2
    simp [h1, h2, h2', b2i, hM, hT]
  have h2' : b ≤ 4 := by rw [le_nl]; exact h2
  by_cases h3 : x < 0
  · simp [h1, h2, h2', h3, b2i, hM, hT]
  by_cases h4 : x ≤ 512 - b
  · simp only [h1, h2, h2', h3, h4, if_true, if_false, Bool.false_eq_true, b2i]
    have q : 0 ≤ b.toInt ∧ b.toInt ≤ 4 := by
      rw [Int32.lt_iff_toInt_lt] at h1 h2
      have e1 : (1 : Int32).toInt = 1 := by decide
      have e2 : (4 : Int32).toInt = 4 := by decide
      omega
    have z := st_e (xt := x) (wd := w) q.1 q.2 hM hT
    exact ⟨trivial, z.1, z.2⟩
  · simp [h1, h2, h2', h3, h4, b2i, hM, hT]
theorem six {w : Int32} (h1 : ¬ w < 0) (h2 : w ≤ 5) : w = 0 ∨ w = 1 ∨ w = 2 ∨ w = 3 ∨ w = 4 ∨ w = 5 := by
  rw [Int32.lt_iff_toInt_lt] at h1
  rw [Int32.le_iff_toInt_le] at h2
  have e0 : (0 : Int32).toInt = 0 := by decide
  have e1 : (1 : Int32).toInt = 1 := by decide
  have e2 : (2 : Int32).toInt = 2 := by decide
  have e3 : (3 : Int32).toInt = 3 := by decide
  have e4 : (4 : Int32).toInt = 4 := by decide
  have e5 : (5 : Int32).toInt = 5 := by decide
  have h : w.toInt = 0 ∨ w.toInt = 1 ∨ w.toInt = 2 ∨ w.toInt = 3 ∨ w.toInt = 4 ∨ w.toInt = 5 := by omega
  rcases h with h | h | h | h | h | h
  · exact Or.inl (Int32.toInt_inj.mp (by omega))
  · exact Or.inr (Or.inl (Int32.toInt_inj.mp (by omega)))
  · exact Or.inr (Or.inr (Or.inl (Int32.toInt_inj.mp (by omega))))
  · exact Or.inr (Or.inr (Or.inr (Or.inl (Int32.toInt_inj.mp (by omega)))))
  · exact Or.inr (Or.inr (Or.inr (Or.inr (Or.inl (Int32.toInt_inj.mp (by omega))))))
  · exact Or.inr (Or.inr (Or.inr (Or.inr (Or.inr (Int32.toInt_inj.mp (by omega))))))
theorem eq_look (hQ : Qr c d) (r w : Int32) : (f_R_look d r w).2 = (if (f_M_look c r w).1 = true then (0 : Int32) else 1) ∧ ((f_M_look c r w).1 = true → (f_R_look d r w).1 = (f_M_look c r w).2) := by
  unfold f_M_look f_R_look f_R_outside f_R_refuse
  by_cases h1 : r < 0
  · simp [h1]
  by_cases h2 : 11 ≤ r
  · have h2' : ¬ r ≤ 10 := by
      rw [Int32.le_iff_toInt_le] at h2 ⊢
      have e1 : (11 : Int32).toInt = 11 := by decide
      have e2 : (10 : Int32).toInt = 10 := by decide
      omega
    simp [h1, h2, h2']
  have h2' : r ≤ 10 := by
    rw [Int32.le_iff_toInt_le] at h2 ⊢
    have e1 : (11 : Int32).toInt = 11 := by decide
    have e2 : (10 : Int32).toInt = 10 := by decide
    omega
  by_cases h3 : w < 0
  · simp [h1, h2, h2', h3]
  by_cases h4 : w ≤ 5
  · have hi : r.toNatClampNeg < 11 := by
      rw [Int32.lt_iff_toInt_lt] at h1
      rw [Int32.le_iff_toInt_le] at h2'
      have e1 : (0 : Int32).toInt = 0 := by decide
      have e2 : (10 : Int32).toInt = 10 := by decide
      have e3 : r.toNatClampNeg = r.toInt.toNat := rfl
      omega
    simp only [h1, h2, h2', h3, h4, if_true, if_false, Bool.false_eq_true, true_and]
    intro _
    rw [← hQ _ hi]
    unfold f_K_part
    generalize c r.toNatClampNeg = z
    rcases six h3 h4 with rfl | rfl | rfl | rfl | rfl | rfl
    · cases hz : k_v z <;> simp [b2i]
    · simp
    · simp
    · simp
    · simp
    · simp
  · simp [h1, h2, h2', h3, h4]
theorem eq_peek (hM : Mr fB fM) (x : Int32) : (f_R_peek fM x).2 = (if (f_M_peek fB x).1 = true then (0 : Int32) else 1) ∧ ((f_M_peek fB x).1 = true → (f_R_peek fM x).1 = (f_M_peek fB x).2) := by
  unfold f_M_peek f_R_peek f_R_outside f_R_refuse
  by_cases h1 : x < 0
  · simp [h1]
  have e1 : (511 : Int32).toInt = 511 := by decide
  have e2 : (512 : Int32).toInt = 512 := by decide
  by_cases h2 : x < 512
  · have h2' : x ≤ 511 := by
      rw [Int32.lt_iff_toInt_lt] at h2
      rw [Int32.le_iff_toInt_le]
      omega
    have hi := (vp_in_iff.mp (mk_in h1 h2)).2
    simp only [h1, h2, h2', if_true, if_false, Bool.false_eq_true, true_and]
    intro _
    exact (hM _ (by
      have e3 : x.toNatClampNeg = x.toInt.toNat := rfl
      omega)).symm
  · have h2' : ¬ x ≤ 511 := by
      rw [Int32.lt_iff_toInt_lt] at h2
      rw [Int32.le_iff_toInt_le]
      omega
    simp [h1, h2, h2']
theorem eq_tagged (hT : Tr gT gU) (x : Int32) : (f_R_tagged gU x).1 = f_M_tagged gT x := by
  unfold f_M_tagged f_R_tagged f_R_outside
  by_cases h1 : x < 0
  · simp [h1]
  have e1 : (63 : Int32).toInt = 63 := by decide
  have e2 : (64 : Int32).toInt = 64 := by decide
  by_cases h2 : 64 ≤ x
  · have h2' : ¬ x ≤ 63 := by
      rw [Int32.le_iff_toInt_le] at h2 ⊢
      omega
    simp [h1, h2, h2']
  · have h2' : x ≤ 63 := by
      rw [Int32.le_iff_toInt_le] at h2 ⊢
      omega
    have hi : x.toNatClampNeg < 64 := by
      rw [Int32.lt_iff_toInt_lt] at h1
      rw [Int32.le_iff_toInt_le] at h2'
      have e0 : (0 : Int32).toInt = 0 := by decide
      have e3 : x.toNatClampNeg = x.toInt.toNat := rfl
      omega
    simp [h1, h2, h2', hT _ hi]
theorem eq_run (hQ : Qr c d) (hM : Mr fB fM) (hT : Tr gT gU) (hG : Gr c) (sS sC co ra rb rc im hf nn : Int32) : RnQ (f_M_run sS sC fB gT c nn) (f_R_run sC sS co ra rb rc im hf fM gU d nn) :=
  rn_sim nn _ rfl 2000 0 true sS sC fB gT c co ra rb rc im hf false fM gU d (by decide) (by decide) rfl hQ hM hT hG
theorem gr_of (hQ : Qr c d) (hG : Gr c) : Gr d := fun i hi => by rw [← hQ i hi]; exact hG i hi
theorem in_q0 : Qr c0M c0R := fun _ _ => rfl
theorem in_g0 : Gr c0M := by
  unfold c0M
  simp only [cf_granted]
  exact g_up (g_up (fun _ _ => rg_nm 0) _ (rg_new (by decide) (by decide) (by decide) (by decide) (by decide))) _ (rg_new (by decide) (by decide) (by decide) (by decide) (by decide))
theorem in_m0 : Mr (fun _ => 0) (fun _ => 0) := fun _ _ => (by decide : (0 : Int32) &&& 255 = 0)
theorem in_t0 : Tr (fun _ => false) (fun _ => false) := fun _ _ => rfl
end EqCalls
