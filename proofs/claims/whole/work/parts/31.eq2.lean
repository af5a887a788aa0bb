-- an access that is refused, and one that isn't allowed
theorem al_1 : ∀ n : Nat, n < 513 → (lg_cmp (Int64.ofNat n &&& ((1 : Int32) - 1).toInt64) 0 = 0 ↔ lg_cmp (Int64.ofNat n - Int64.ofNat n / (1 : Int32).toInt64 * (1 : Int32).toInt64) 0 = 0) := by decide +kernel
theorem al_4 : ∀ n : Nat, n < 513 → (lg_cmp (Int64.ofNat n &&& ((4 : Int32) - 1).toInt64) 0 = 0 ↔ lg_cmp (Int64.ofNat n - Int64.ofNat n / (4 : Int32).toInt64 * (4 : Int32).toInt64) 0 = 0) := by decide +kernel
theorem al_8 : ∀ n : Nat, n < 513 → (lg_cmp (Int64.ofNat n &&& ((8 : Int32) - 1).toInt64) 0 = 0 ↔ lg_cmp (Int64.ofNat n - Int64.ofNat n / (8 : Int32).toInt64 * (8 : Int32).toInt64) 0 = 0) := by decide +kernel
theorem i64_of {x : Int64} (h0 : 0 ≤ x.toInt) (h1 : x.toInt ≤ 512) : x = Int64.ofNat x.toInt.toNat := by
  apply Int64.toInt_inj.mp
  rw [Int64.toInt_ofNat_of_lt (by omega)]
  omega
theorem al_b {x : Int64} {bt : Int32} (hb : bt = 1 ∨ bt = 4 ∨ bt = 8) (h0 : 0 ≤ x.toInt) (h1 : x.toInt ≤ 512) : (lg_cmp (x &&& (bt - 1).toInt64) 0 = 0 ↔ lg_cmp (x - x / bt.toInt64 * bt.toInt64) 0 = 0) := by
  rw [i64_of h0 h1]
  rcases hb with rfl | rfl | rfl
  · exact al_1 _ (by omega)
  · exact al_4 _ (by omega)
  · exact al_8 _ (by omega)
theorem al_rf {cK cK' : Nat → Cp} {i : Nat} {r nd bt : Int32} {xl : Int64} (he : cK i = cK' r.toNatClampNeg) (hg : Rg (cK i)) (hb : bt = 1 ∨ bt = 4 ∨ bt = 8) (h1 : -4294967296 ≤ xl.toInt) (h2 : xl.toInt ≤ 4294967296) : f_K_refusal cK i nd xl bt = f_R_allow cK' r xl bt nd := by
  unfold f_K_refusal f_R_allow f_R_usable f_R_may f_K_permits
  rw [he] at hg ⊢
  generalize cK' r.toNatClampNeg = c at hg ⊢
  obtain ⟨b0, b1, t0, t1, p0, p1, y0, y1⟩ := hg
  have e0 : (0 : Int32).toInt = 0 := by decide
  have e5 : (512 : Int32).toInt = 512 := by decide
  have e6 : (512 : Int64).toInt = 512 := by decide
  have hbt : 1 ≤ bt.toInt ∧ bt.toInt ≤ 8 := by rcases hb with rfl | rfl | rfl <;> decide
  by_cases hv : k_v c = true
  · rw [if_pos hv, if_pos hv]
    by_cases hy : k_y c = 0
    · have hy' : k_y c ≤ 0 := by rw [hy]; decide
      rw [if_pos hy, if_pos hy', if_pos (by decide : (0 : Int32) ≤ 0)]
      by_cases hp : k_p c &&& nd = nd
      · rw [if_pos hp, if_pos rfl, if_pos rfl]
        by_cases hl : lg_cmp xl (k_b c).toInt64 < 0
        · rw [if_pos hl, if_pos hl]
        · rw [if_neg hl, if_neg hl]
          have hl' := hl
          rw [lg_cmp_lt, Int64.lt_iff_toInt_lt, Int32.toInt_toInt64] at hl'
          have e := ad_l (x := xl) (y := bt.toInt64) (by rw [Int32.toInt_toInt64]; omega) (by rw [Int32.toInt_toInt64]; omega)
          rw [Int32.toInt_toInt64] at e
          by_cases h3 : (k_t c).toInt < xl.toInt + bt.toInt
          · have q1 : 0 < lg_cmp (xl + bt.toInt64) (k_t c).toInt64 := by rw [lg_cmp_gt, Int64.lt_iff_toInt_lt, Int32.toInt_toInt64, e]; omega
            have q2 : ¬ lg_cmp (xl + bt.toInt64) (if (512 : Int32) ≤ k_t c then (512 : Int64) else (k_t c).toInt64) ≤ 0 := by
              rw [lg_cmp_le, Int64.le_iff_toInt_le, e]
              split
              · rename_i q
                rw [Int32.le_iff_toInt_le] at q
                omega
              · rw [Int32.toInt_toInt64]; omega
            rw [if_pos q1, if_neg q2]
          · have q1 : ¬ 0 < lg_cmp (xl + bt.toInt64) (k_t c).toInt64 := by rw [lg_cmp_gt, Int64.lt_iff_toInt_lt, Int32.toInt_toInt64, e]; omega
            rw [if_neg q1]
            by_cases h4 : xl.toInt + bt.toInt ≤ 512
            · have q2 : lg_cmp (xl + bt.toInt64) 512 ≤ 0 := by rw [lg_cmp_le, Int64.le_iff_toInt_le, e]; omega
              have q3 : lg_cmp (xl + bt.toInt64) (if (512 : Int32) ≤ k_t c then (512 : Int64) else (k_t c).toInt64) ≤ 0 := by
                rw [lg_cmp_le, Int64.le_iff_toInt_le, e]
                split
                · omega
                · rw [Int32.toInt_toInt64]; omega
              rw [if_pos q2, if_pos q3]
              have q4 := al_b (x := xl) hb (by omega) (by omega)
              by_cases h5 : lg_cmp (xl &&& (bt - 1).toInt64) 0 = 0
              · rw [if_pos h5, if_pos (q4.mp h5)]
              · rw [if_neg h5, if_neg (fun z => h5 (q4.mpr z))]
            · have q2 : ¬ lg_cmp (xl + bt.toInt64) 512 ≤ 0 := by rw [lg_cmp_le, Int64.le_iff_toInt_le, e]; omega
              have q3 : ¬ lg_cmp (xl + bt.toInt64) (if (512 : Int32) ≤ k_t c then (512 : Int64) else (k_t c).toInt64) ≤ 0 := by
                rw [lg_cmp_le, Int64.le_iff_toInt_le, e]
                split
                · omega
                · rename_i q
                  rw [Int32.le_iff_toInt_le] at q
                  rw [Int32.toInt_toInt64]; omega
              rw [if_neg q2, if_neg q3]
      · rw [if_neg hp, if_neg Bool.false_ne_true, if_neg Bool.false_ne_true]
    · have hy' : ¬ k_y c ≤ 0 := by
        rw [Int32.le_iff_toInt_le]
        intro z
        exact hy (Int32.toInt_inj.mp (by omega))
      rw [if_neg hy, if_neg hy', if_neg (by decide : ¬ (2 : Int32) ≤ 0)]
  · rw [if_neg hv, if_neg hv, if_neg (by decide : ¬ (1 : Int32) ≤ 0)]
