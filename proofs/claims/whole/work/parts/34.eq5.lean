section Ops3
variable {fB fM : Nat → Int32} {gT gU : Nat → Bool} {c d : Nat → Cp} {a b g : Int32}
theorem sm_eq {R : Int32 × (Nat → Int32) × (Nat → Bool) × (Nat → Cp)} {E : Int32} {Z : (Nat → Int32) × (Nat → Bool) × (Nat → Cp)} (hM : Mr fB fM) (hT : Tr gT gU) (hQ : Qr c d) (hG : Gr c) (hE : E = 0) (hR : R = (0, fB, gT, c)) (hZ : Z = (fM, gU, f_R_move d 8 (k_a (d ((8 : Int32).toNatClampNeg)) + 4 + 0))) : Sim fB gT c d R E Z :=
  Or.inl ⟨hE, fB, gT, _, fM, gU, d, hR, hZ, hM, hT, hQ, rfl, hG⟩
theorem s_pt (hQ : Qr c d) (hM : Mr fB fM) (hT : Tr gT gU) (hG : Gr c) (ha : a.toNatClampNeg < 8) (k n iv hf : Int32) (j2 j3 : Nat) (e1 : f_M_compute fB gT c k a.toNatClampNeg j2 j3 iv = ((f_M_number c a.toNatClampNeg n).1, fB, gT, (f_M_number c a.toNatClampNeg n).2)) (e2 : f_R_exception k a b g iv d = 0) (e3 : f_R_doIt k a b g iv hf fM gU d = (fM, gU, f_R_move (f_R_number d a n) 8 (k_a (d ((8 : Int32).toNatClampNeg)) + 4 + 0))) : Sim fB gT c d (f_M_compute fB gT c k a.toNatClampNeg j2 j3 iv) (f_R_exception k a b g iv d) (f_R_doIt k a b g iv hf fM gU d) := by
  rw [e1, e2, e3]
  exact s_num hQ hM hT hG ha n
theorem s_23 (hQ : Qr c d) (hM : Mr fB fM) (hT : Tr gT gU) (hG : Gr c) (ha : a.toNatClampNeg < 8) (hb : b.toNatClampNeg < 8) (iv hf : Int32) (j3 : Nat) : Sim fB gT c d (f_M_compute fB gT c 23 a.toNatClampNeg b.toNatClampNeg j3 iv) (f_R_exception 23 a b g iv d) (f_R_doIt 23 a b g iv hf fM gU d) :=
  s_pt hQ hM hT hG ha 23 (b2i (if k_v (c b.toNatClampNeg) = true then true else false)) iv hf _ _ rfl rfl (by rw [hQ _ (show b.toNatClampNeg < 11 by omega)]; rfl)
theorem s_24 (hQ : Qr c d) (hM : Mr fB fM) (hT : Tr gT gU) (hG : Gr c) (ha : a.toNatClampNeg < 8) (hb : b.toNatClampNeg < 8) (iv hf : Int32) (j3 : Nat) : Sim fB gT c d (f_M_compute fB gT c 24 a.toNatClampNeg b.toNatClampNeg j3 iv) (f_R_exception 24 a b g iv d) (f_R_doIt 24 a b g iv hf fM gU d) :=
  s_pt hQ hM hT hG ha 24 (k_b (c b.toNatClampNeg)) iv hf _ _ rfl rfl (by rw [hQ _ (show b.toNatClampNeg < 11 by omega)]; rfl)
theorem s_25 (hQ : Qr c d) (hM : Mr fB fM) (hT : Tr gT gU) (hG : Gr c) (ha : a.toNatClampNeg < 8) (hb : b.toNatClampNeg < 8) (iv hf : Int32) (j3 : Nat) : Sim fB gT c d (f_M_compute fB gT c 25 a.toNatClampNeg b.toNatClampNeg j3 iv) (f_R_exception 25 a b g iv d) (f_R_doIt 25 a b g iv hf fM gU d) :=
  s_pt hQ hM hT hG ha 25 (k_t (c b.toNatClampNeg)) iv hf _ _ rfl rfl (by rw [hQ _ (show b.toNatClampNeg < 11 by omega)]; rfl)
theorem s_26 (hQ : Qr c d) (hM : Mr fB fM) (hT : Tr gT gU) (hG : Gr c) (ha : a.toNatClampNeg < 8) (hb : b.toNatClampNeg < 8) (iv hf : Int32) (j3 : Nat) : Sim fB gT c d (f_M_compute fB gT c 26 a.toNatClampNeg b.toNatClampNeg j3 iv) (f_R_exception 26 a b g iv d) (f_R_doIt 26 a b g iv hf fM gU d) :=
  s_pt hQ hM hT hG ha 26 (k_p (c b.toNatClampNeg)) iv hf _ _ rfl rfl (by rw [hQ _ (show b.toNatClampNeg < 11 by omega)]; rfl)
theorem s_27 (hQ : Qr c d) (hM : Mr fB fM) (hT : Tr gT gU) (hG : Gr c) (ha : a.toNatClampNeg < 8) (hb : b.toNatClampNeg < 8) (iv hf : Int32) (j3 : Nat) : Sim fB gT c d (f_M_compute fB gT c 27 a.toNatClampNeg b.toNatClampNeg j3 iv) (f_R_exception 27 a b g iv d) (f_R_doIt 27 a b g iv hf fM gU d) :=
  s_pt hQ hM hT hG ha 27 (k_y (c b.toNatClampNeg)) iv hf _ _ rfl rfl (by rw [hQ _ (show b.toNatClampNeg < 11 by omega)]; rfl)
theorem s_28 (hQ : Qr c d) (hM : Mr fB fM) (hT : Tr gT gU) (hG : Gr c) (ha : a.toNatClampNeg < 8) (hb : b.toNatClampNeg < 8) (iv hf : Int32) (j3 : Nat) : Sim fB gT c d (f_M_compute fB gT c 28 a.toNatClampNeg b.toNatClampNeg j3 iv) (f_R_exception 28 a b g iv d) (f_R_doIt 28 a b g iv hf fM gU d) :=
  s_pt hQ hM hT hG ha 28 (k_a (c b.toNatClampNeg)) iv hf _ _ rfl rfl (by rw [hQ _ (show b.toNatClampNeg < 11 by omega)]; rfl)
theorem or_and (x y : Int32) : (y &&& x = x) ↔ (x ||| y = y) := by
  rw [← Int32.toBitVec_inj, ← Int32.toBitVec_inj, Int32.toBitVec_and, Int32.toBitVec_or]
  generalize x.toBitVec = u
  generalize y.toBitVec = v
  constructor
  · intro h
    apply BitVec.eq_of_getLsbD_eq
    intro i _
    have q := congrArg (fun z => z.getLsbD i) h
    simp only [BitVec.getLsbD_and, BitVec.getLsbD_or] at q ⊢
    cases hu : u.getLsbD i <;> cases hv : v.getLsbD i <;> simp_all
  · intro h
    apply BitVec.eq_of_getLsbD_eq
    intro i _
    have q := congrArg (fun z => z.getLsbD i) h
    simp only [BitVec.getLsbD_and, BitVec.getLsbD_or] at q ⊢
    cases hu : u.getLsbD i <;> cases hv : v.getLsbD i <;> simp_all
theorem wi_eq (hQ : Qr c d) (hb : b.toNatClampNeg < 11) (hg : g.toNatClampNeg < 11) : f_R_within b g d = f_K_isWithin c b.toNatClampNeg g.toNatClampNeg := by
  unfold f_R_within f_K_isWithin f_K_permits
  rw [hQ _ hb, hQ _ hg]
  by_cases h : k_p (d g.toNatClampNeg) &&& k_p (d b.toNatClampNeg) = k_p (d b.toNatClampNeg)
  · rw [if_pos h, if_pos rfl, if_pos ((or_and _ _).mp h)]
  · rw [if_neg h, if_neg Bool.false_ne_true, if_neg (fun z => h ((or_and _ _).mpr z))]
theorem s_30 (hQ : Qr c d) (hM : Mr fB fM) (hT : Tr gT gU) (hG : Gr c) (ha : a.toNatClampNeg < 8) (hb : b.toNatClampNeg < 8) (hg : g.toNatClampNeg < 8) (iv hf : Int32) : Sim fB gT c d (f_M_compute fB gT c 30 a.toNatClampNeg b.toNatClampNeg g.toNatClampNeg iv) (f_R_exception 30 a b g iv d) (f_R_doIt 30 a b g iv hf fM gU d) :=
  s_pt hQ hM hT hG ha 30 (b2i (if f_K_isWithin c b.toNatClampNeg g.toNatClampNeg = true then true else false)) iv hf _ _ rfl rfl (by rw [← wi_eq hQ (by omega) (by omega)]; rfl)
theorem s_32 (hQ : Qr c d) (hM : Mr fB fM) (hT : Tr gT gU) (hG : Gr c) (ha : a.toNatClampNeg < 8) (iv hf : Int32) (j2 j3 : Nat) : Sim fB gT c d (f_M_compute fB gT c 32 a.toNatClampNeg j2 j3 iv) (f_R_exception 32 a b g iv d) (f_R_doIt 32 a b g iv hf fM gU d) := by
  have ha' : a.toNatClampNeg < 11 := by omega
  have hr := hG _ ha'
  have e1 : f_M_compute fB gT c 32 a.toNatClampNeg j2 j3 iv = ((f_M_setHandler c a.toNatClampNeg).1, fB, gT, (f_M_setHandler c a.toNatClampNeg).2) := rfl
  have e3 : f_R_doIt 32 a b g iv hf fM gU d = (if f_R_usable d a = 0 then (if f_R_may d a 4 = true then (fM, gU, f_R_move (f_R_copy d a 9) 8 (k_a (d ((8 : Int32).toNatClampNeg)) + 4 + 0)) else (fM, gU, f_R_move d 8 (k_a (d ((8 : Int32).toNatClampNeg)) + 4 + 0))) else (fM, gU, f_R_move d 8 (k_a (d ((8 : Int32).toNatClampNeg)) + 4 + 0))) := rfl
  have e4 : f_R_usable d a = if k_v (c a.toNatClampNeg) = true then (if k_y (c a.toNatClampNeg) ≤ 0 then 0 else 2) else 1 := by
    unfold f_R_usable
    rw [hQ _ ha']
  rw [pm_eq hQ ha', e4] at e3
  unfold f_M_setHandler at e1
  rw [cf_become] at e1
  by_cases hv : k_v (c a.toNatClampNeg) = true
  · rw [if_pos hv] at e1 e3
    by_cases hy : k_y (c a.toNatClampNeg) = 0
    · rw [if_pos hy] at e1
      rw [if_pos ((y_le hr).mpr hy), if_pos rfl] at e3
      by_cases hp : f_K_permits c a.toNatClampNeg 4 = true
      · rw [if_pos hp] at e1 e3
        rw [e1]
        refine sm_up (i := 9) hM hT hG (by decide) hr rfl rfl (hQ.up 9 _) ?_
        rw [e3, rf_copy d (r0 := a) (r1 := 9) (by rw [n9]; omega), n9, hQ _ ha']
      · rw [if_neg hp] at e1 e3
        rw [e1]
        exact sm_eq hM hT hQ hG rfl rfl e3
    · rw [if_neg hy] at e1
      rw [if_neg (fun z => hy ((y_le hr).mp z)), if_neg (by decide : ¬ (2 : Int32) = 0)] at e3
      rw [e1]
      exact sm_eq hM hT hQ hG rfl rfl e3
  · rw [if_neg hv] at e1 e3
    rw [if_neg (by decide : ¬ (1 : Int32) = 0)] at e3
    rw [e1]
    exact sm_eq hM hT hQ hG rfl rfl e3
theorem s_il {v : Int32} (h : ¬ v ≤ 32) (iv : Int32) (j1 j2 j3 : Nat) (Z : (Nat → Int32) × (Nat → Bool) × (Nat → Cp)) : Sim fB gT c d (f_M_compute fB gT c v j1 j2 j3 iv) (f_R_exception v a b g iv d) Z := by
  have n : ∀ k : Int32, k ≤ 32 → ¬ v = k := fun k hk e => h (e ▸ hk)
  have x32 : (32 : Int32).toInt = 32 := by decide
  have l : ∀ k : Int32, k ≤ 32 → ¬ v ≤ k := fun k hk e => by
    rw [Int32.le_iff_toInt_le] at *
    omega
  have lt : ∀ k : Int32, k ≤ 32 → ¬ v < k := fun k hk e => by
    rw [Int32.le_iff_toInt_le] at *
    rw [Int32.lt_iff_toInt_lt] at e
    omega
  have gt : ∀ k : Int32, k ≤ 32 → k < v := fun k hk => by
    rw [Int32.le_iff_toInt_le] at *
    rw [Int32.lt_iff_toInt_lt]
    omega
  have ge : ∀ k : Int32, k ≤ 32 → k ≤ v := fun k hk => by
    rw [Int32.le_iff_toInt_le] at *
    omega
  have e1 : f_M_compute fB gT c v j1 j2 j3 iv = (8, fB, gT, c) := by
    unfold f_M_compute
    simp only [if_neg (lt 17 (by decide)), if_neg (lt 23 (by decide)), if_pos (gt 22 (by decide)), if_pos (gt 28 (by decide)), if_neg (n 2 (by decide)), if_neg (n 3 (by decide)), if_neg (n 7 (by decide)), if_neg (n 8 (by decide)), if_neg (n 9 (by decide)), if_neg (n 10 (by decide)), if_neg (n 11 (by decide)), if_neg (n 12 (by decide)), if_neg (n 13 (by decide)), if_neg (n 14 (by decide)), if_neg (n 15 (by decide)), if_neg (n 29 (by decide)), if_neg (n 30 (by decide)), if_neg (n 31 (by decide)), if_neg (n 32 (by decide))]
  have e2 : f_R_exception v a b g iv d = 8 := by
    unfold f_R_exception
    rw [if_neg (n 8 (by decide)), if_neg (n 9 (by decide)), if_neg (n 12 (by decide)), if_neg (n 10 (by decide)), if_neg (n 11 (by decide)), if_neg (n 13 (by decide)), if_neg (n 14 (by decide)), if_neg (n 15 (by decide)), if_neg (n 16 (by decide)), if_neg (l 16 (by decide)), if_pos (ge 23 (by decide)), if_neg h]
  exact sm_no 8 (by decide) e2 e1
end Ops3
