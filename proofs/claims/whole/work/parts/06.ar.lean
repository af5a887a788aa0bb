-- ranges of addresses
def Ar (x : Int32) (n : Nat) : Prop := 0 ≤ x.toInt ∧ x.toInt + (n : Int) ≤ 512
def As (x ct : Int32) : Prop := 0 ≤ x.toInt ∧ 0 ≤ ct.toInt ∧ x.toInt + ct.toInt ≤ 512
theorem in_k {x : Int32} {n : Nat} (h : decide (¬ (x < 0 ∨ n ≤ x.toNatClampNeg)) = true) : vp_in x n := (of_decide_eq_true h : ¬ (x < 0 ∨ n ≤ x.toNatClampNeg))
theorem ad_s {x y : Int32} (h1 : -2147483648 ≤ x.toInt + y.toInt) (h2 : x.toInt + y.toInt ≤ 2147483647) : (x + y).toInt = x.toInt + y.toInt := by
  rw [Int32.toInt_add]
  exact Int.bmod_eq_of_le (by omega) (by omega)
theorem sb_s {x y : Int32} (h1 : -2147483648 ≤ x.toInt - y.toInt) (h2 : x.toInt - y.toInt ≤ 2147483647) : (x - y).toInt = x.toInt - y.toInt := by
  rw [Int32.toInt_sub]
  exact Int.bmod_eq_of_le (by omega) (by omega)
theorem ml_s {x y : Int32} (h1 : -2147483648 ≤ x.toInt * y.toInt) (h2 : x.toInt * y.toInt ≤ 2147483647) : (x * y).toInt = x.toInt * y.toInt := by
  rw [Int32.toInt_mul]
  exact Int.bmod_eq_of_le (by omega) (by omega)
theorem dv_s {x y : Int32} (h0 : 0 ≤ x.toInt) (h1 : 0 < y.toInt) : (x / y).toInt = x.toInt / y.toInt := by
  have a := Int32.toInt_lt x
  rw [Int32.toInt_div, Int.tdiv_eq_ediv_of_nonneg h0]
  have h2 : 0 ≤ x.toInt / y.toInt := Int.ediv_nonneg h0 (by omega)
  have h3 : x.toInt / y.toInt ≤ x.toInt := Int.ediv_le_self _ h0
  exact Int.bmod_eq_of_le (by omega) (by omega)
theorem Ar.i0 {x : Int32} {n : Nat} (h : Ar x n) (hn : 1 ≤ n) : vp_in x 512 := vp_in_iff.mpr ⟨h.1, by have := h.2; omega⟩
theorem Ar.ik {x k : Int32} {n : Nat} (h : Ar x n) (hk0 : 0 ≤ k.toInt) (hk : k.toInt < n) : vp_in (x + k) 512 := by
  have h1 := h.1
  have h2 := h.2
  have e := ad_s (x := x) (y := k) (by omega) (by omega)
  exact vp_in_iff.mpr ⟨by omega, by omega⟩
theorem Ar.i1 {x : Int32} {n : Nat} (h : Ar x n) (hn : 2 ≤ n) : vp_in (x + 1) 512 := h.ik (by decide) (by have : (1 : Int32).toInt = 1 := (by decide); omega)
theorem Ar.i2 {x : Int32} {n : Nat} (h : Ar x n) (hn : 3 ≤ n) : vp_in (x + 2) 512 := h.ik (by decide) (by have : (2 : Int32).toInt = 2 := (by decide); omega)
theorem Ar.i3 {x : Int32} {n : Nat} (h : Ar x n) (hn : 4 ≤ n) : vp_in (x + 3) 512 := h.ik (by decide) (by have : (3 : Int32).toInt = 3 := (by decide); omega)
theorem Ar.lo {x : Int32} (h : Ar x 8) : Ar x 4 := ⟨h.1, by have := h.2; omega⟩
theorem Ar.hi {x : Int32} (h : Ar x 8) : Ar (x + 4) 4 := by
  have h1 := h.1
  have h2 := h.2
  have e4 : (4 : Int32).toInt = 4 := by decide
  have e := ad_s (x := x) (y := 4) (by omega) (by omega)
  exact ⟨by omega, by omega⟩
theorem dv_in {x : Int32} (h : vp_in x 512) : vp_in (x / 8) 64 := by
  obtain ⟨h1, h2⟩ := vp_in_iff.mp h
  have e8 : (8 : Int32).toInt = 8 := by decide
  have e := dv_s (x := x) (y := 8) h1 (by omega)
  rw [e8] at e
  exact vp_in_iff.mpr ⟨by omega, by omega⟩
theorem Ar.dv {x : Int32} {n : Nat} (h : Ar x n) (hn : 1 ≤ n) : vp_in (x / 8) 64 := dv_in (h.i0 hn)
theorem Ar.a4 {x : Int32} (h : Ar x 4) : As x 4 := ⟨h.1, by decide, by have e4 : (4 : Int32).toInt = 4 := (by decide); have := h.2; omega⟩
theorem and7_in (x : Int32) : vp_in (x &&& 7) 11 := by
  obtain ⟨h1, h2⟩ := vp_in_iff.mp (pk_andIn x (m := 7) 3 (by decide) (by decide))
  exact vp_in_iff.mpr ⟨h1, by omega⟩
theorem and7_lt (x : Int32) : (x &&& 7).toNatClampNeg < 12 := by
  obtain ⟨j, hj, e⟩ := pk_andE x (m := 7) 3 (by decide)
  rw [e, nI_clamp (by omega)]
  omega
theorem in_lt {x : Int32} {n : Nat} (h : vp_in x n) : x.toNatClampNeg < n := Nat.not_le.mp fun z => h (Or.inr z)
theorem in_of {x n : Int32} {N : Nat} (h1 : ¬ x < 0) (h2 : ¬ n ≤ x) (hn : n.toInt = (N : Int)) : vp_in x N := by
  rw [Int32.lt_iff_toInt_lt] at h1
  rw [Int32.le_iff_toInt_le] at h2
  have e0 : (0 : Int32).toInt = 0 := by decide
  exact vp_in_iff.mpr ⟨by omega, by omega⟩
