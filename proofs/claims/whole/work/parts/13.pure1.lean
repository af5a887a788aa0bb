-- ranges of a capability's fields; what an access that isn't refused may touch
def Rg (c : Cp) : Prop := 0 ≤ (k_b c).toInt ∧ (k_b c).toInt ≤ 1023 ∧ 0 ≤ (k_t c).toInt ∧ (k_t c).toInt ≤ 1023 ∧ 0 ≤ (k_p c).toInt ∧ (k_p c).toInt ≤ 255 ∧ 0 ≤ (k_y c).toInt ∧ (k_y c).toInt ≤ 15
theorem ad_l {x y : Int64} (h1 : -9223372036854775808 ≤ x.toInt + y.toInt) (h2 : x.toInt + y.toInt ≤ 9223372036854775807) : (x + y).toInt = x.toInt + y.toInt := by
  rw [Int64.toInt_add]
  exact Int.bmod_eq_of_le (by omega) (by omega)
theorem ls_0 (x y : Int32) : -4294967296 ≤ (x.toInt64 + y.toInt64).toInt := by
  have a := Int32.le_toInt x
  have b := Int32.le_toInt y
  have a' := Int32.toInt_lt x
  have b' := Int32.toInt_lt y
  have e := ad_l (x := x.toInt64) (y := y.toInt64) (by rw [Int32.toInt_toInt64, Int32.toInt_toInt64]; omega) (by rw [Int32.toInt_toInt64, Int32.toInt_toInt64]; omega)
  rw [e, Int32.toInt_toInt64, Int32.toInt_toInt64]
  omega
theorem ls_1 (x y : Int32) : (x.toInt64 + y.toInt64).toInt ≤ 4294967296 := by
  have a := Int32.le_toInt x
  have b := Int32.le_toInt y
  have a' := Int32.toInt_lt x
  have b' := Int32.toInt_lt y
  have e := ad_l (x := x.toInt64) (y := y.toInt64) (by rw [Int32.toInt_toInt64, Int32.toInt_toInt64]; omega) (by rw [Int32.toInt_toInt64, Int32.toInt_toInt64]; omega)
  rw [e, Int32.toInt_toInt64, Int32.toInt_toInt64]
  omega
theorem rf_ok {cK : Nat → Cp} {i : Nat} {nd bt : Int32} {xl : Int64} (h : f_K_refusal cK i nd xl bt = 0) (hg : Rg (cK i)) (h0 : 0 ≤ bt.toInt) (h1 : -4294967296 ≤ xl.toInt) (h2 : xl.toInt ≤ 4294967296) : As xl.toInt32 bt ∧ xl.toInt32.toInt = xl.toInt := by
  unfold f_K_refusal at h
  repeat' split at h
  all_goals first | exact absurd h (by decide) | skip
  rename_i q1 q2 q3 q4 q5 q6 q7
  rw [lg_cmp_lt, Int64.lt_iff_toInt_lt, Int32.toInt_toInt64] at q4
  rw [lg_cmp_le, Int64.le_iff_toInt_le] at q6
  have b' := Int32.toInt_lt bt
  have e5 : (512 : Int64).toInt = 512 := by decide
  have e := ad_l (x := xl) (y := bt.toInt64) (by rw [Int32.toInt_toInt64]; omega) (by rw [Int32.toInt_toInt64]; omega)
  rw [e, Int32.toInt_toInt64, e5] at q6
  have hb := hg.1
  have e2 : xl.toInt32.toInt = xl.toInt := by
    rw [Int64.toInt_toInt32]
    exact Int.bmod_eq_of_le (by omega) (by omega)
  exact ⟨⟨by omega, h0, by omega⟩, e2⟩
theorem rf_pc {cK : Nat → Cp} {i : Nat} {nd x : Int32} (h : f_K_refusal cK i nd x.toInt64 4 = 0) (hg : Rg (cK i)) : Ar x 4 := by
  have a := Int32.le_toInt x
  have a' := Int32.toInt_lt x
  obtain ⟨⟨h1, h2, h3⟩, h4⟩ := rf_ok h hg (by decide) (by rw [Int32.toInt_toInt64]; omega) (by rw [Int32.toInt_toInt64]; omega)
  rw [Int32.toInt_toInt64] at h4
  have e4 : (4 : Int32).toInt = 4 := by decide
  exact ⟨by omega, by omega⟩
theorem bo_0 (cd : Int32) : 0 ≤ (f_M_bytesOf cd).toInt := by
  unfold f_M_bytesOf
  repeat' split
  all_goals decide
theorem bo_17 {x cd : Int32} (h : As x (f_M_bytesOf cd)) (e : cd = 17) : vp_in x 512 := by
  subst e
  have e1 : (f_M_bytesOf 17).toInt = 1 := by decide
  exact vp_in_iff.mpr ⟨h.1, by have := h.2.2; omega⟩
theorem bo_18 {x cd : Int32} (h : As x (f_M_bytesOf cd)) (e : cd = 18) : Ar x 4 := by
  subst e
  have e1 : (f_M_bytesOf 18).toInt = 4 := by decide
  exact ⟨h.1, by have := h.2.2; omega⟩
theorem bo_19 {x cd : Int32} (h : As x (f_M_bytesOf cd)) (e : cd = 19) : Ar x 8 := by
  subst e
  have e1 : (f_M_bytesOf 19).toInt = 8 := by decide
  exact ⟨h.1, by have := h.2.2; omega⟩
theorem bo_22 {x cd : Int32} (h : As x (f_M_bytesOf cd)) (e : cd = 22) : Ar x 8 := by
  subst e
  have e1 : (f_M_bytesOf 22).toInt = 8 := by decide
  exact ⟨h.1, by have := h.2.2; omega⟩
