theorem mg_in {r : Int32} (h : (if r < 0 then false else (if 9 < r then false else true)) = true) : vp_in r 11 := by
  split at h
  · cases h
  · rename_i q1
    split at h
    · cases h
    · rename_i q2
      rw [Int32.lt_iff_toInt_lt] at q1 q2
      have e0 : (0 : Int32).toInt = 0 := by decide
      have e9 : (9 : Int32).toInt = 9 := by decide
      exact vp_in_iff.mpr ⟨by omega, by omega⟩
theorem mp_as {x b : Int32} (h1 : ¬ b < 1) (h2 : ¬ 4 < b) (h3 : ¬ x < 0) (h4 : x ≤ 512 - b) : As x b := by
  rw [Int32.lt_iff_toInt_lt] at h1 h2 h3
  rw [Int32.le_iff_toInt_le] at h4
  have e0 : (0 : Int32).toInt = 0 := by decide
  have e1 : (1 : Int32).toInt = 1 := by decide
  have e4 : (4 : Int32).toInt = 4 := by decide
  have e5 : (512 : Int32).toInt = 512 := by decide
  have e := sb_s (x := 512) (y := b) (by omega) (by omega)
  exact ⟨by omega, by omega, by omega⟩
theorem mk_in {x : Int32} (h1 : ¬ x < 0) (h2 : x < 512) : vp_in x 512 := by
  rw [Int32.lt_iff_toInt_lt] at h1 h2
  have e0 : (0 : Int32).toInt = 0 := by decide
  have e5 : (512 : Int32).toInt = 512 := by decide
  exact vp_in_iff.mpr ⟨by omega, by omega⟩
