-- one mathematical value for both sides
def nmc (n : Int32) : Cp := (false, 0, 0, 0, 0, n)
def mvc (c : Cp) (na : Int32) : Cp := s_v (s_a c na) (k_v c && (decide ((k_b c).toInt - 64 ≤ na.toInt) && decide (na.toInt < (k_t c).toInt + 64)))
theorem cf_become (cK : Nat → Cp) (i j : Nat) : f_K_become cK i j = va_up cK i (cK j) := rfl
theorem cf_number (cK : Nat → Cp) (i : Nat) (n : Int32) : f_K_becomeNumber cK i n = va_up cK i (nmc n) := rfl
theorem cf_granted (cK : Nat → Cp) (i : Nat) (b t a p : Int32) : f_K_becomeGranted cK i b t a p = va_up cK i (true, b, t, p, 0, a) := rfl
theorem rf_set (cK : Nat → Cp) (r b t a p : Int32) : f_R_set cK r b t a p = va_up cK r.toNatClampNeg (true, b, t, p, 0, a) := rfl
theorem rf_number (cK : Nat → Cp) (r n : Int32) : f_R_number cK r n = va_up cK r.toNatClampNeg (nmc n) := by
  unfold f_R_number
  rw [rf_set, bx_uu, va_up_self]
  rfl
theorem rf_copy (cK : Nat → Cp) {r0 r1 : Int32} (h : r0.toNatClampNeg ≠ r1.toNatClampNeg) : f_R_copy cK r0 r1 = va_up cK r1.toNatClampNeg (cK r0.toNatClampNeg) := by
  unfold f_R_copy
  rw [rf_set, va_up_ne _ _ h, bx_uu, bx_uu, va_up_self, va_up_ne _ _ h]
  rfl
theorem e64 : (64 : Int32).toInt = 64 := by decide
theorem e63 : (63 : Int32).toInt = 63 := by decide
theorem cf_moveTo {cK : Nat → Cp} {i : Nat} (hg : Rg (cK i)) (na : Int32) : f_K_moveTo cK i na = va_up cK i (mvc (cK i) na) := by
  obtain ⟨b0, b1, t0, t1, -⟩ := hg
  have eb := sb_s (x := k_b (cK i)) (y := 64) (by rw [e64]; omega) (by rw [e64]; omega)
  have et := ad_s (x := k_t (cK i)) (y := 64) (by rw [e64]; omega) (by rw [e64]; omega)
  rw [e64] at eb et
  unfold f_K_moveTo mvc
  congr 2
  cases hv : k_v (cK i) with
  | false => simp
  | true =>
    by_cases h1 : na < k_b (cK i) - 64
    · have h1' := Int32.lt_iff_toInt_lt.mp h1
      rw [if_pos h1, if_pos rfl, if_neg Bool.false_ne_true]
      have : ¬ (k_b (cK i)).toInt - 64 ≤ na.toInt := by omega
      simp [this]
    · have h1' : ¬ _ := fun z => h1 (Int32.lt_iff_toInt_lt.mpr z)
      rw [if_neg h1]
      have q1 : (k_b (cK i)).toInt - 64 ≤ na.toInt := by omega
      by_cases h2 : k_t (cK i) + 64 ≤ na
      · have h2' := Int32.le_iff_toInt_le.mp h2
        rw [if_pos h2, if_pos rfl, if_neg Bool.false_ne_true]
        have : ¬ na.toInt < (k_t (cK i)).toInt + 64 := by omega
        simp [this]
      · have h2' : ¬ _ := fun z => h2 (Int32.le_iff_toInt_le.mpr z)
        rw [if_neg h2, if_pos rfl, if_pos rfl]
        have q2 : na.toInt < (k_t (cK i)).toInt + 64 := by omega
        simp [q1, q2]
theorem rf_move {cK : Nat → Cp} {r : Int32} (hg : Rg (cK r.toNatClampNeg)) (na : Int32) : f_R_move cK r na = va_up cK r.toNatClampNeg (mvc (cK r.toNatClampNeg) na) := by
  obtain ⟨b0, b1, t0, t1, -⟩ := hg
  have eb := sb_s (x := k_b (cK r.toNatClampNeg)) (y := 64) (by rw [e64]; omega) (by rw [e64]; omega)
  have et := ad_s (x := k_t (cK r.toNatClampNeg)) (y := 63) (by rw [e63]; omega) (by rw [e63]; omega)
  rw [e64] at eb
  rw [e63] at et
  have key : (if k_v (cK r.toNatClampNeg) = true then (if f_R_outside na (k_b (cK r.toNatClampNeg) - 64) (k_t (cK r.toNatClampNeg) + 63) = true then false else true) else false) = (k_v (cK r.toNatClampNeg) && (decide ((k_b (cK r.toNatClampNeg)).toInt - 64 ≤ na.toInt) && decide (na.toInt < (k_t (cK r.toNatClampNeg)).toInt + 64))) := by
    cases hv : k_v (cK r.toNatClampNeg) with
    | false => simp
    | true =>
      unfold f_R_outside
      by_cases h1 : na < k_b (cK r.toNatClampNeg) - 64
      · have h1' := Int32.lt_iff_toInt_lt.mp h1
        rw [if_pos h1, if_pos rfl, if_pos rfl]
        have : ¬ (k_b (cK r.toNatClampNeg)).toInt - 64 ≤ na.toInt := by omega
        simp [this]
      · have h1' : ¬ _ := fun z => h1 (Int32.lt_iff_toInt_lt.mpr z)
        rw [if_neg h1]
        have q1 : (k_b (cK r.toNatClampNeg)).toInt - 64 ≤ na.toInt := by omega
        by_cases h2 : na ≤ k_t (cK r.toNatClampNeg) + 63
        · have h2' := Int32.le_iff_toInt_le.mp h2
          rw [if_pos h2, if_pos rfl, if_neg Bool.false_ne_true]
          have q2 : na.toInt < (k_t (cK r.toNatClampNeg)).toInt + 64 := by omega
          simp [q1, q2]
        · have h2' : ¬ _ := fun z => h2 (Int32.le_iff_toInt_le.mpr z)
          rw [if_neg h2, if_pos rfl, if_pos rfl]
          have : ¬ na.toInt < (k_t (cK r.toNatClampNeg)).toInt + 64 := by omega
          simp [this]
  unfold f_R_move
  rw [key]
  rfl
