-- bytes, words, shifts
theorem by_m (x : Int32) : x.toInt8.toInt32 &&& 255 = x &&& 255 := by
  apply Int32.toBitVec_inj.mp
  rw [Int32.toBitVec_and, Int32.toBitVec_and, Int8.toBitVec_toInt32, Int32.toBitVec_toInt8]
  apply BitVec.eq_of_getLsbD_eq
  intro i hi
  rw [BitVec.getLsbD_and, BitVec.getLsbD_and]
  have hm : ∀ i < 32, 8 ≤ i → (255 : Int32).toBitVec.getLsbD i = false := by decide
  rcases Nat.lt_or_ge i 8 with z | z
  · rw [BitVec.getLsbD_signExtend, BitVec.getLsbD_signExtend, if_pos z, if_pos hi]
    simp only [z, hi, decide_true, Bool.true_and]
  · rw [hm i hi z]; simp
theorem sh_v (w : BitVec 32) (s k : Nat) (h : s + k ≤ 32) : (w.sshiftRight s) &&& BitVec.ofNat 32 (2 ^ k - 1) = (w >>> s) &&& BitVec.ofNat 32 (2 ^ k - 1) := by
  apply BitVec.eq_of_getLsbD_eq
  intro i hi
  rw [BitVec.getLsbD_and, BitVec.getLsbD_and, BitVec.getLsbD_sshiftRight, BitVec.getLsbD_ushiftRight, BitVec.getLsbD_ofNat, Nat.testBit_two_pow_sub_one]
  by_cases hk : i < k
  · have h1 : s + i < 32 := by omega
    have h2 : ¬ 32 ≤ i := by omega
    simp [h1, h2]
  · simp [hk]
theorem sh_e (w s m : Int32) (n k : Nat) (h1 : ((s.toUInt32 &&& Int32.toUInt32 31).toBitVec % 32).toNat = n) (h2 : ((s &&& 31).toBitVec.smod 32).toNat = n) (hm : m.toBitVec = BitVec.ofNat 32 (2 ^ k - 1)) (h : n + k ≤ 32) : (w.toUInt32 >>> (s.toUInt32 &&& Int32.toUInt32 31)).toInt32 &&& m = (w >>> (s &&& 31)) &&& m := by
  apply Int32.toBitVec_inj.mp
  rw [Int32.toBitVec_and, Int32.toBitVec_and]
  have e1 : (w.toUInt32 >>> (s.toUInt32 &&& Int32.toUInt32 31)).toInt32.toBitVec = w.toBitVec >>> n := by
    rw [← h1]
    exact UInt32.toBitVec_shiftRight _ _
  have e2 : (w >>> (s &&& 31)).toBitVec = w.toBitVec.sshiftRight n := by
    rw [← h2]
    exact Int32.toBitVec_shiftRight _ _
  rw [e1, e2, hm]
  exact (sh_v _ n k h).symm
theorem or_n {x y : Nat} (k : Nat) (hx : x < 2 ^ k) : x ||| y * 2 ^ k = x + y * 2 ^ k := by
  have h := Nat.two_pow_add_eq_or_of_lt hx y
  rw [Nat.or_comm, Nat.mul_comm y, ← h]
  omega
theorem w4 (y0 y1 y2 y3 : Int32) : (((y0 &&& 255) ||| ((y1 &&& 255) <<< ((8 : Int32) &&& 31))) ||| ((y2 &&& 255) <<< ((16 : Int32) &&& 31))) ||| ((y3 &&& 255) <<< ((24 : Int32) &&& 31)) = (((y0 &&& 255) + ((y1 &&& 255) <<< ((8 : Int32) &&& 31))) + ((y2 &&& 255) <<< ((16 : Int32) &&& 31))) + ((y3 &&& 255) <<< ((24 : Int32) &&& 31)) := by
  obtain ⟨n0, h0, e0⟩ := pk_andE y0 (m := 255) 8 (by decide)
  obtain ⟨n1, h1, e1⟩ := pk_andE y1 (m := 255) 8 (by decide)
  obtain ⟨n2, h2, e2⟩ := pk_andE y2 (m := 255) 8 (by decide)
  obtain ⟨n3, h3, e3⟩ := pk_andE y3 (m := 255) 8 (by decide)
  rw [e0, e1, e2, e3]
  apply Int32.toBitVec_inj.mp
  apply BitVec.eq_of_toNat_eq
  rw [Int32.toBitVec_or, Int32.toBitVec_or, Int32.toBitVec_or, Int32.toBitVec_add, Int32.toBitVec_add, Int32.toBitVec_add]
  rw [BitVec.toNat_or, BitVec.toNat_or, BitVec.toNat_or, BitVec.toNat_add, BitVec.toNat_add, BitVec.toNat_add]
  rw [pk_shl _ _ 8 (by decide), pk_shl _ _ 16 (by decide), pk_shl _ _ 24 (by decide), pk_tn (by omega), pk_tn (by omega), pk_tn (by omega), pk_tn (by omega)]
  rw [Nat.mod_eq_of_lt (show n1 * 2 ^ 8 < 2 ^ 32 by omega), Nat.mod_eq_of_lt (show n2 * 2 ^ 16 < 2 ^ 32 by omega), Nat.mod_eq_of_lt (show n3 * 2 ^ 24 < 2 ^ 32 by omega)]
  rw [or_n 8 h0, or_n 16 (show n0 + n1 * 2 ^ 8 < 2 ^ 16 by omega), or_n 24 (show n0 + n1 * 2 ^ 8 + n2 * 2 ^ 16 < 2 ^ 24 by omega)]
  omega
theorem pk_e {b t y p : Int32} (b0 : 0 ≤ b.toInt) (b1 : b.toInt ≤ 1023) (t0 : 0 ≤ t.toInt) (t1 : t.toInt ≤ 1023) (p0 : 0 ≤ p.toInt) (p1 : p.toInt ≤ 255) (y0 : 0 ≤ y.toInt) (y1 : y.toInt ≤ 15) : ((b ||| (t <<< ((10 : Int32) &&& 31))) ||| (y <<< ((20 : Int32) &&& 31))) ||| (p <<< ((24 : Int32) &&& 31)) = ((b + ((1024 : Int32) * t)) + ((1048576 : Int32) * y)) + (p <<< ((24 : Int32) &&& 31)) := by
  rw [i32_of b0, i32_of t0, i32_of p0, i32_of y0]
  generalize hb : b.toInt.toNat = nb
  generalize ht : t.toInt.toNat = nt
  generalize hp : p.toInt.toNat = np
  generalize hy : y.toInt.toNat = ny
  have k1 : (1024 : Int32).toBitVec.toNat = 1024 := by decide
  have k2 : (1048576 : Int32).toBitVec.toNat = 1048576 := by decide
  apply Int32.toBitVec_inj.mp
  apply BitVec.eq_of_toNat_eq
  rw [Int32.toBitVec_or, Int32.toBitVec_or, Int32.toBitVec_or, Int32.toBitVec_add, Int32.toBitVec_add, Int32.toBitVec_add, Int32.toBitVec_mul, Int32.toBitVec_mul]
  rw [BitVec.toNat_or, BitVec.toNat_or, BitVec.toNat_or, BitVec.toNat_add, BitVec.toNat_add, BitVec.toNat_add, BitVec.toNat_mul, BitVec.toNat_mul, k1, k2]
  rw [pk_shl _ _ 10 (by decide), pk_shl _ _ 20 (by decide), pk_shl _ _ 24 (by decide), pk_tn (by omega), pk_tn (by omega), pk_tn (by omega), pk_tn (by omega)]
  rw [Nat.mod_eq_of_lt (show nt * 2 ^ 10 < 2 ^ 32 by omega), Nat.mod_eq_of_lt (show ny * 2 ^ 20 < 2 ^ 32 by omega), Nat.mod_eq_of_lt (show np * 2 ^ 24 < 2 ^ 32 by omega)]
  rw [or_n 10 (show nb < 2 ^ 10 by omega), or_n 20 (show nb + nt * 2 ^ 10 < 2 ^ 20 by omega), or_n 24 (show nb + nt * 2 ^ 10 + ny * 2 ^ 20 < 2 ^ 24 by omega)]
  omega
section Mem
variable {fB fM : Nat → Int32} {gT gU : Nat → Bool}
theorem bt_eq (hM : Mr fB fM) {x : Int32} (h : vp_in x 512) : f_E_byteAt fB x = fM x.toNatClampNeg := hM _ (in_lt h)
theorem wd_eq (hM : Mr fB fM) {x : Int32} (h : Ar x 4) : f_E_wordAt fB x = f_R_word fM x := by
  have q0 := hM _ (in_lt (h.i0 (by decide)))
  have q1 := hM _ (in_lt (h.i1 (by decide)))
  have q2 := hM _ (in_lt (h.i2 (by decide)))
  have q3 := hM _ (in_lt (h.i3 (by decide)))
  unfold f_E_wordAt f_R_word f_E_byteAt
  rw [w4, q0, q1, q2, q3]
theorem Mr.up (h : Mr fB fM) (i : Nat) {u v : Int32} (e : u &&& 255 = v) : Mr (upd fB i u) (upd fM i v) := by
  intro k hk
  by_cases q : k = i
  · simp [upd, q, e]
  · simp only [upd, if_neg q]
    exact h k hk
theorem Tr.up (h : Tr gT gU) (i : Nat) (v : Bool) : Tr (va_up gT i v) (va_up gU i v) := by
  intro k hk
  by_cases q : k = i
  · simp [va_up, q]
  · simp only [va_up, if_neg q]
    exact h k hk
theorem sv_e {k : Int32} (h0 : 0 ≤ k.toInt) (h1 : k.toInt < 4) (w : Int32) : (w.toUInt32 >>> (((8 : Int32) * k).toUInt32 &&& Int32.toUInt32 31)).toInt32.toInt8.toInt32 &&& 255 = (w >>> (((8 : Int32) * k) &&& 31)) &&& (255 : Int32) := by
  rw [by_m]
  have hk : k = 0 ∨ k = 1 ∨ k = 2 ∨ k = 3 := by
    have e0 : (0 : Int32).toInt = 0 := by decide
    have e1 : (1 : Int32).toInt = 1 := by decide
    have e2 : (2 : Int32).toInt = 2 := by decide
    have e3 : (3 : Int32).toInt = 3 := by decide
    rcases (by omega : k.toInt = 0 ∨ k.toInt = 1 ∨ k.toInt = 2 ∨ k.toInt = 3) with h | h | h | h
    · exact Or.inl (Int32.toInt_inj.mp (by omega))
    · exact Or.inr (Or.inl (Int32.toInt_inj.mp (by omega)))
    · exact Or.inr (Or.inr (Or.inl (Int32.toInt_inj.mp (by omega))))
    · exact Or.inr (Or.inr (Or.inr (Int32.toInt_inj.mp (by omega))))
  rcases hk with rfl | rfl | rfl | rfl
  · exact sh_e w _ 255 0 8 (by decide) (by decide) (by decide) (by decide)
  · exact sh_e w _ 255 8 8 (by decide) (by decide) (by decide) (by decide)
  · exact sh_e w _ 255 16 8 (by decide) (by decide) (by decide) (by decide)
  · exact sh_e w _ 255 24 8 (by decide) (by decide) (by decide) (by decide)
theorem st_g (xt wd : Int32) : ∀ (n : Nat) (k : Int32) (fB fM : Nat → Int32) (gT gU : Nat → Bool), 0 ≤ k.toInt → k.toInt + (n : Int) ≤ 4 → Mr fB fM → Tr gT gU → Mr (g_E_store xt wd n k fB gT).1 (g_R_store xt wd n k fM gU).1 ∧ Tr (g_E_store xt wd n k fB gT).2 (g_R_store xt wd n k fM gU).2 := by
  intro n
  induction n with
  | zero => exact fun k fB fM gT gU _ _ hM hT => ⟨hM, hT⟩
  | succ n ih =>
    intro k fB fM gT gU h0 h1 hM hT
    have e1 : (1 : Int32).toInt = 1 := by decide
    have e2 := ad_s (x := k) (y := 1) (by omega) (by omega)
    exact ih (k + 1) _ _ _ _ (by omega) (by omega) (hM.up _ (sv_e h0 (by omega) wd)) (hT.up _ false)
theorem st_e {xt wd ct : Int32} (h0 : 0 ≤ ct.toInt) (h1 : ct.toInt ≤ 4) (hM : Mr fB fM) (hT : Tr gT gU) : Mr (f_E_store fB gT xt wd ct).1 (f_R_store fM gU xt wd ct).1 ∧ Tr (f_E_store fB gT xt wd ct).2 (f_R_store fM gU xt wd ct).2 := by
  have hc : ct.toNatClampNeg = ct.toInt.toNat := rfl
  have e0 : (0 : Int32).toInt = 0 := by decide
  exact st_g xt wd ct.toNatClampNeg 0 fB fM gT gU (by omega) (by omega) hM hT
end Mem
