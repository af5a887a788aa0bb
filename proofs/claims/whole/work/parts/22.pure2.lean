-- the reference: what is known where its arrays are used
theorem ou_in {x lo hi : Int32} {N : Nat} (h : f_R_outside x lo hi = false) (h0 : 0 ≤ lo.toInt) (h1 : hi.toInt < (N : Int)) : vp_in x N := by
  unfold f_R_outside at h
  split at h
  · cases h
  · rename_i q1
    split at h
    · rename_i q2
      rw [Int32.lt_iff_toInt_lt] at q1
      rw [Int32.le_iff_toInt_le] at q2
      exact vp_in_iff.mpr ⟨by omega, by omega⟩
    · cases h
theorem sz_0 (co : Int32) : 0 ≤ (f_R_size co).toInt := by
  unfold f_R_size
  repeat' split
  all_goals decide
theorem sz_17 {x co : Int32} (h : As x (f_R_size co)) (e : co = 17) : vp_in x 512 := by
  subst e
  have e1 : (f_R_size 17).toInt = 1 := by decide
  exact vp_in_iff.mpr ⟨h.1, by have := h.2.2; omega⟩
theorem sz_18 {x co : Int32} (h : As x (f_R_size co)) (e : co = 18) : Ar x 4 := by
  subst e
  have e1 : (f_R_size 18).toInt = 4 := by decide
  exact ⟨h.1, by have := h.2.2; omega⟩
theorem sz_19 {x co : Int32} (h : As x (f_R_size co)) (e : co = 19) : Ar x 8 := by
  subst e
  have e1 : (f_R_size 19).toInt = 8 := by decide
  exact ⟨h.1, by have := h.2.2; omega⟩
theorem sz_22 {x co : Int32} (h : As x (f_R_size co)) (e : co = 22) : Ar x 8 := by
  subst e
  have e1 : (f_R_size 22).toInt = 8 := by decide
  exact ⟨h.1, by have := h.2.2; omega⟩
theorem us_pos {cK : Nat → Cp} {r : Int32} (h : ¬ f_R_usable cK r ≤ 0) : ¬ f_R_usable cK r = 0 := fun e => h (by rw [e]; decide)
theorem al_ok {cK : Nat → Cp} {r nn wh : Int32} {xl : Int64} (h : f_R_allow cK r xl nn wh ≤ 0) (hg : Rg (cK r.toNatClampNeg)) (h0 : 0 ≤ nn.toInt) (h1 : -4294967296 ≤ xl.toInt) (h2 : xl.toInt ≤ 4294967296) : As xl.toInt32 nn ∧ xl.toInt32.toInt = xl.toInt := by
  unfold f_R_allow at h
  by_cases q1 : f_R_usable cK r ≤ 0
  · rw [if_pos q1] at h
    by_cases q2 : f_R_may cK r wh = true
    · rw [if_pos q2] at h
      by_cases q3 : lg_cmp xl (k_b (cK r.toNatClampNeg)).toInt64 < 0
      · rw [if_pos q3] at h
        exact absurd h (by decide)
      · rw [if_neg q3] at h
        by_cases q4 : lg_cmp (xl + nn.toInt64) (if (512 : Int32) ≤ k_t (cK r.toNatClampNeg) then (512 : Int64) else (k_t (cK r.toNatClampNeg)).toInt64) ≤ 0
        · rw [lg_cmp_lt, Int64.lt_iff_toInt_lt, Int32.toInt_toInt64] at q3
          rw [lg_cmp_le, Int64.le_iff_toInt_le] at q4
          have b' := Int32.toInt_lt nn
          have e5 : (512 : Int64).toInt = 512 := by decide
          have e6 : (512 : Int32).toInt = 512 := by decide
          have e := ad_l (x := xl) (y := nn.toInt64) (by rw [Int32.toInt_toInt64]; omega) (by rw [Int32.toInt_toInt64]; omega)
          have q5 : xl.toInt + nn.toInt ≤ 512 := by
            rw [e, Int32.toInt_toInt64] at q4
            split at q4
            · omega
            · rename_i q6
              rw [Int32.le_iff_toInt_le] at q6
              rw [Int32.toInt_toInt64] at q4
              omega
          have hb := hg.1
          have e2 : xl.toInt32.toInt = xl.toInt := by
            rw [Int64.toInt_toInt32]
            exact Int.bmod_eq_of_le (by omega) (by omega)
          exact ⟨⟨by omega, h0, by omega⟩, e2⟩
        · rw [if_neg q4] at h
          exact absurd h (by decide)
    · rw [if_neg q2] at h
      exact absurd h (by decide)
  · rw [if_neg q1] at h
    exact absurd h q1
theorem al_pc {cK : Nat → Cp} {r wh x : Int32} (h : f_R_allow cK r x.toInt64 4 wh = 0) (hg : Rg (cK r.toNatClampNeg)) : Ar x 4 := by
  have a := Int32.le_toInt x
  have a' := Int32.toInt_lt x
  obtain ⟨⟨h1, h2, h3⟩, h4⟩ := al_ok (by rw [h]; decide) hg (by decide) (by rw [Int32.toInt_toInt64]; omega) (by rw [Int32.toInt_toInt64]; omega)
  rw [Int32.toInt_toInt64] at h4
  have e4 : (4 : Int32).toInt = 4 := by decide
  exact ⟨by omega, by omega⟩
theorem al_le {cK : Nat → Cp} {r nn wh : Int32} {xl : Int64} (h : f_R_allow cK r xl nn wh ≤ 0) : f_R_allow cK r xl nn wh = 0 := by
  unfold f_R_allow at h ⊢
  by_cases q1 : f_R_usable cK r ≤ 0
  · rw [if_pos q1] at h ⊢
    by_cases q2 : f_R_may cK r wh = true
    · rw [if_pos q2] at h ⊢
      by_cases q3 : lg_cmp xl (k_b (cK r.toNatClampNeg)).toInt64 < 0
      · rw [if_pos q3] at h
        exact absurd h (by decide)
      · rw [if_neg q3] at h ⊢
        by_cases q4 : lg_cmp (xl + nn.toInt64) (if (512 : Int32) ≤ k_t (cK r.toNatClampNeg) then (512 : Int64) else (k_t (cK r.toNatClampNeg)).toInt64) ≤ 0
        · rw [if_pos q4] at h ⊢
          by_cases q5 : lg_cmp (xl - xl / nn.toInt64 * nn.toInt64) 0 = 0
          · rw [if_pos q5]
          · rw [if_neg q5] at h
            exact absurd h (by decide)
        · rw [if_neg q4] at h
          exact absurd h (by decide)
    · rw [if_neg q2] at h
      exact absurd h (by decide)
  · rw [if_neg q1] at h
    exact absurd h q1
theorem al_ct {cK : Nat → Cp} {r nn wh : Int32} {xl : Int64} (h : ¬ f_R_allow cK r xl nn wh = 0) : ¬ (if f_R_allow cK r xl nn wh ≤ 0 then false else true) = false := by
  rw [if_neg (fun z => h (al_le z))]
  exact fun z => by cases z
theorem rm_in {v : Int32} (h0 : 0 ≤ v.toInt) (h1 : v.toInt ≤ 255) : vp_in (v - v / 8 * 8) 8 := by
  have e8 : (8 : Int32).toInt = 8 := by decide
  have e1 := dv_s (x := v) (y := 8) h0 (by omega)
  rw [e8] at e1
  have e2 := ml_s (x := v / 8) (y := 8) (by rw [e8]; omega) (by rw [e8]; omega)
  rw [e8] at e2
  have e3 := sb_s (x := v) (y := v / 8 * 8) (by omega) (by omega)
  exact vp_in_iff.mpr ⟨by omega, by omega⟩
theorem in_w {x : Int32} (h : vp_in x 8) : vp_in x 12 := by
  obtain ⟨a, b⟩ := vp_in_iff.mp h
  exact vp_in_iff.mpr ⟨a, by omega⟩
theorem ft_a8 {fM : Nat → Int32} {x : Int32} (hm : ∀ k, k < 512 → 0 ≤ (fM k).toInt ∧ (fM k).toInt ≤ 255) (h : Ar x 4) : vp_in (f_R_fetch fM x).2.1 8 :=
  have q := hm _ (in_lt (h.i1 (by decide)))
  rm_in q.1 q.2
theorem ft_a {fM : Nat → Int32} {x : Int32} (hm : ∀ k, k < 512 → 0 ≤ (fM k).toInt ∧ (fM k).toInt ≤ 255) (h : Ar x 4) : vp_in (f_R_fetch fM x).2.1 12 :=
  have q := hm _ (in_lt (h.i1 (by decide)))
  in_w (rm_in q.1 q.2)
theorem ft_b8 {fM : Nat → Int32} {x : Int32} (hm : ∀ k, k < 512 → 0 ≤ (fM k).toInt ∧ (fM k).toInt ≤ 255) (h : Ar x 4) : vp_in (f_R_fetch fM x).2.2.1 8 :=
  have q := hm _ (in_lt (h.i2 (by decide)))
  rm_in q.1 q.2
theorem ft_b {fM : Nat → Int32} {x : Int32} (hm : ∀ k, k < 512 → 0 ≤ (fM k).toInt ∧ (fM k).toInt ≤ 255) (h : Ar x 4) : vp_in (f_R_fetch fM x).2.2.1 12 :=
  have q := hm _ (in_lt (h.i2 (by decide)))
  in_w (rm_in q.1 q.2)
theorem ft_c8 {fM : Nat → Int32} {x : Int32} (hm : ∀ k, k < 512 → 0 ≤ (fM k).toInt ∧ (fM k).toInt ≤ 255) (h : Ar x 4) : vp_in (f_R_fetch fM x).2.2.2.1 8 :=
  have q := hm _ (in_lt (h.i3 (by decide)))
  rm_in q.1 q.2
theorem ft_c {fM : Nat → Int32} {x : Int32} (hm : ∀ k, k < 512 → 0 ≤ (fM k).toInt ∧ (fM k).toInt ≤ 255) (h : Ar x 4) : vp_in (f_R_fetch fM x).2.2.2.1 12 :=
  have q := hm _ (in_lt (h.i3 (by decide)))
  in_w (rm_in q.1 q.2)
theorem fa_as {co ra rb im : Int32} {cK : Nat → Cp} (h : f_R_forAccess co ra rb im cK ≤ 0) (hg : Rg (cK rb.toNatClampNeg)) : As (k_a (cK rb.toNatClampNeg) + im) (f_R_size co) := by
  unfold f_R_forAccess at h
  obtain ⟨⟨h1, h2, h3⟩, h4⟩ := al_ok h hg (sz_0 co) (ls_0 _ _) (ls_1 _ _)
  have a := Int32.le_toInt (k_a (cK rb.toNatClampNeg))
  have a' := Int32.toInt_lt (k_a (cK rb.toNatClampNeg))
  have b := Int32.le_toInt im
  have b' := Int32.toInt_lt im
  have e := ad_l (x := (k_a (cK rb.toNatClampNeg)).toInt64) (y := im.toInt64) (by rw [Int32.toInt_toInt64, Int32.toInt_toInt64]; omega) (by rw [Int32.toInt_toInt64, Int32.toInt_toInt64]; omega)
  rw [Int32.toInt_toInt64, Int32.toInt_toInt64] at e
  have e2 := ad_s (x := k_a (cK rb.toNatClampNeg)) (y := im) (by omega) (by omega)
  exact ⟨by omega, h2, by omega⟩
theorem ex_fa {co ra rb rc im : Int32} {cK : Nat → Cp} (h1 : ¬ co ≤ 16) (h2 : ¬ 23 ≤ co) : f_R_exception co ra rb rc im cK = f_R_forAccess co ra rb im cK := by
  have n : ∀ k : Int32, k ≤ 16 → ¬ co = k := fun k hk e => h1 (e ▸ hk)
  unfold f_R_exception
  rw [if_neg (n 8 (by decide)), if_neg (n 9 (by decide)), if_neg (n 12 (by decide)), if_neg (n 10 (by decide)), if_neg (n 11 (by decide)), if_neg (n 13 (by decide)), if_neg (n 14 (by decide)), if_neg (n 15 (by decide)), if_neg (n 16 (by decide)), if_neg h1, if_neg h2]
theorem ex_as {co ra rb rc im : Int32} {cK : Nat → Cp} (h : (if f_R_exception co ra rb rc im cK ≤ 0 then false else true) = false) (h1 : ¬ co ≤ 16) (h2 : ¬ 23 ≤ co) (hg : Rg (cK rb.toNatClampNeg)) : As (k_a (cK rb.toNatClampNeg) + im) (f_R_size co) := by
  split at h
  · rename_i q
    rw [ex_fa h1 h2] at q
    exact fa_as q hg
  · cases h
theorem b2i_le {X : Bool} (h : b2i X ≤ 0) : X = false := by
  cases X with
  | true => exact absurd h (by decide)
  | false => rfl
theorem gr_in {r : Int32} {Y : Bool} (h : b2i (if f_R_outside r 0 9 = true then true else Y) ≤ 0) : vp_in r 12 := by
  have h1 := b2i_le h
  split at h1
  · cases h1
  · rename_i q
    exact ou_in (bn_n q) (by decide) (by decide)
theorem po_as {x b : Int32} (h : b2i (if f_R_outside b 1 4 = true then true else (if x < 0 then true else (if x ≤ 512 - b then false else true))) = 0) : As x b := by
  have h1 := (b2i_0 _).mp h
  split at h1
  · cases h1
  · rename_i q
    obtain ⟨b0, b1⟩ := vp_in_iff.mp (ou_in (N := 5) (bn_n q) (by decide) (by decide))
    split at h1
    · cases h1
    · rename_i q1
      split at h1
      · rename_i q2
        rw [Int32.lt_iff_toInt_lt] at q1
        rw [Int32.le_iff_toInt_le] at q2
        have e0 : (0 : Int32).toInt = 0 := by decide
        have e5 : (512 : Int32).toInt = 512 := by decide
        have e := sb_s (x := 512) (y := b) (by omega) (by omega)
        exact ⟨by omega, by omega, by omega⟩
      · cases h1
theorem in_31 {co rb : Int32} (h : vp_in rb 12) : vp_in (if co = (31 : Int32) then (8 : Int32) else rb) 12 := by
  split
  · exact in_k rfl
  · exact h
