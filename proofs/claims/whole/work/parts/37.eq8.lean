-- loads and stores, side by side
section Acc
variable {fB fM : Nat → Int32} {gT gU : Nat → Bool} {c d : Nat → Cp} {a b g : Int32}
/-- what an access makes of the state, where it isn't refused -/
theorem s_ac (k iv hf : Int32) (j3 : Nat) (hQ : Qr c d) (hG : Gr c) (ha : a.toNatClampNeg < 8) (hb : b.toNatClampNeg < 8) (hbt : f_M_bytesOf k = 1 ∨ f_M_bytesOf k = 4 ∨ f_M_bytesOf k = 8)
    (e1 : f_M_compute fB gT c k a.toNatClampNeg b.toNatClampNeg j3 iv = ((f_M_access fB gT c k a.toNatClampNeg b.toNatClampNeg ((k_a (c b.toNatClampNeg)).toInt64 + iv.toInt64)).1, (f_M_access fB gT c k a.toNatClampNeg b.toNatClampNeg ((k_a (c b.toNatClampNeg)).toInt64 + iv.toInt64)).2.1, (f_M_access fB gT c k a.toNatClampNeg b.toNatClampNeg ((k_a (c b.toNatClampNeg)).toInt64 + iv.toInt64)).2.2.1, (f_M_access fB gT c k a.toNatClampNeg b.toNatClampNeg ((k_a (c b.toNatClampNeg)).toInt64 + iv.toInt64)).2.2.2))
    (e2 : f_R_exception k a b g iv d = f_R_allow d b ((k_a (d b.toNatClampNeg)).toInt64 + iv.toInt64) (f_M_bytesOf k) (f_M_permissionsFor c k a.toNatClampNeg))
    (ok : f_K_refusal c b.toNatClampNeg (f_M_permissionsFor c k a.toNatClampNeg) ((k_a (c b.toNatClampNeg)).toInt64 + iv.toInt64) (f_M_bytesOf k) = 0 → As (k_a (c b.toNatClampNeg) + iv) (f_M_bytesOf k) → ∃ (f1 : Nat → Int32) (g1 : Nat → Bool) (c1 : Nat → Cp) (f2 : Nat → Int32) (g2 : Nat → Bool) (d2 : Nat → Cp), f_M_access fB gT c k a.toNatClampNeg b.toNatClampNeg ((k_a (c b.toNatClampNeg)).toInt64 + iv.toInt64) = (0, f1, g1, c1) ∧ f_R_doIt k a b g iv hf fM gU d = (f2, g2, f_R_move d2 8 (k_a (d ((8 : Int32).toNatClampNeg)) + 4 + 0)) ∧ Mr f1 f2 ∧ Tr g1 g2 ∧ Qr c1 d2 ∧ c1 8 = c 8 ∧ Gr c1) :
    Sim fB gT c d (f_M_compute fB gT c k a.toNatClampNeg b.toNatClampNeg j3 iv) (f_R_exception k a b g iv d) (f_R_doIt k a b g iv hf fM gU d) := by
  have hb' : b.toNatClampNeg < 11 := by omega
  have q := al_rf (cK := c) (cK' := d) (i := b.toNatClampNeg) (r := b) (nd := f_M_permissionsFor c k a.toNatClampNeg) (bt := f_M_bytesOf k) (hQ _ hb') (hG _ hb') hbt (ls_0 (k_a (c b.toNatClampNeg)) iv) (ls_1 (k_a (c b.toNatClampNeg)) iv)
  rw [← hQ _ hb', ← q] at e2
  by_cases h : f_K_refusal c b.toNatClampNeg (f_M_permissionsFor c k a.toNatClampNeg) ((k_a (c b.toNatClampNeg)).toInt64 + iv.toInt64) (f_M_bytesOf k) = 0
  · have hs := (rf_ok h (hG _ hb') (bo_0 k) (ls_0 _ _) (ls_1 _ _)).1
    rw [sm32] at hs
    obtain ⟨f1, g1, c1, f2, g2, d2, x1, x2, x3⟩ := ok h hs
    rw [x1] at e1
    exact Or.inl ⟨e2.trans h, f1, g1, c1, f2, g2, d2, e1, x2, x3⟩
  · have x1 : f_M_access fB gT c k a.toNatClampNeg b.toNatClampNeg ((k_a (c b.toNatClampNeg)).toInt64 + iv.toInt64) = (f_K_refusal c b.toNatClampNeg (f_M_permissionsFor c k a.toNatClampNeg) ((k_a (c b.toNatClampNeg)).toInt64 + iv.toInt64) (f_M_bytesOf k), fB, gT, c) := if_neg h
    rw [x1] at e1
    refine sm_no _ (fun z => h ?_) e2 e1
    rw [q] at z ⊢
    exact al_le z
theorem ac_up {i : Nat} (hi : i < 8) {z : Cp} (hz : Rg z) (hQ : Qr c d) (hG : Gr c) (hM : Mr fB fM) (hT : Tr gT gU) {X : Int32 × (Nat → Int32) × (Nat → Bool) × (Nat → Cp)} {Y : (Nat → Int32) × (Nat → Bool) × (Nat → Cp)} {n : Int32} (hX : X = (0, fB, gT, va_up c i z)) (hY : Y = (fM, gU, f_R_move (va_up d i z) 8 n)) :
    ∃ (f1 : Nat → Int32) (g1 : Nat → Bool) (c1 : Nat → Cp) (f2 : Nat → Int32) (g2 : Nat → Bool) (d2 : Nat → Cp), X = (0, f1, g1, c1) ∧ Y = (f2, g2, f_R_move d2 8 n) ∧ Mr f1 f2 ∧ Tr g1 g2 ∧ Qr c1 d2 ∧ c1 8 = c 8 ∧ Gr c1 :=
  ⟨fB, gT, va_up c i z, fM, gU, va_up d i z, hX, hY, hM, hT, hQ.up i z, va_up_ne _ _ (by omega), hG.up hz⟩
theorem s_17 (hQ : Qr c d) (hM : Mr fB fM) (hT : Tr gT gU) (hG : Gr c) (ha : a.toNatClampNeg < 8) (hb : b.toNatClampNeg < 8) (iv hf : Int32) (j3 : Nat) : Sim fB gT c d (f_M_compute fB gT c 17 a.toNatClampNeg b.toNatClampNeg j3 iv) (f_R_exception 17 a b g iv d) (f_R_doIt 17 a b g iv hf fM gU d) := by
  have hb' : b.toNatClampNeg < 11 := by omega
  refine s_ac 17 iv hf j3 hQ hG ha hb (Or.inl (by decide)) rfl rfl (fun h hs => ?_)
  have hin := bo_17 hs rfl
  refine ac_up (i := a.toNatClampNeg) ha (rg_nm (fM (k_a (c b.toNatClampNeg) + iv).toNatClampNeg)) hQ hG hM hT ?_ ?_
  · refine (if_pos h).trans ?_
    rw [if_pos rfl, sm32, cf_number, bt_eq hM hin]
  · have e : f_R_doIt 17 a b g iv hf fM gU d = (fM, gU, f_R_move (f_R_number d a (fM (k_a (d b.toNatClampNeg) + iv).toNatClampNeg)) 8 (k_a (d ((8 : Int32).toNatClampNeg)) + 4 + 0)) := rfl
    rw [e, rf_number, hQ _ hb']
theorem s_18 (hQ : Qr c d) (hM : Mr fB fM) (hT : Tr gT gU) (hG : Gr c) (ha : a.toNatClampNeg < 8) (hb : b.toNatClampNeg < 8) (iv hf : Int32) (j3 : Nat) : Sim fB gT c d (f_M_compute fB gT c 18 a.toNatClampNeg b.toNatClampNeg j3 iv) (f_R_exception 18 a b g iv d) (f_R_doIt 18 a b g iv hf fM gU d) := by
  have hb' : b.toNatClampNeg < 11 := by omega
  refine s_ac 18 iv hf j3 hQ hG ha hb (Or.inr (Or.inl (by decide))) rfl rfl (fun h hs => ?_)
  have hin := bo_18 hs rfl
  refine ac_up (i := a.toNatClampNeg) ha (rg_nm (f_R_word fM (k_a (c b.toNatClampNeg) + iv))) hQ hG hM hT ?_ ?_
  · refine (if_pos h).trans ?_
    rw [if_neg (by decide), if_pos rfl, sm32, cf_number, wd_eq hM hin]
  · have e : f_R_doIt 18 a b g iv hf fM gU d = (fM, gU, f_R_move (f_R_number d a (f_R_word fM (k_a (d b.toNatClampNeg) + iv))) 8 (k_a (d ((8 : Int32).toNatClampNeg)) + 4 + 0)) := rfl
    rw [e, rf_number, hQ _ hb']
def upc (t : Bool) (lo hi : Int32) : Cp := (t, hi &&& 1023, (hi >>> ((10 : Int32) &&& 31)) &&& 1023, (hi >>> ((24 : Int32) &&& 31)) &&& 255, (hi >>> ((20 : Int32) &&& 31)) &&& 15, lo)
theorem cf_unp (cK : Nat → Cp) (i : Nat) (t : Bool) (lo hi : Int32) : f_K_becomeUnpacked cK i t lo hi = va_up cK i (upc t lo hi) := by
  have q1 := sh_e hi 10 1023 10 10 (by decide) (by decide) (by decide) (by decide)
  have q2 := sh_e hi 20 15 20 4 (by decide) (by decide) (by decide) (by decide)
  have q3 := sh_e hi 24 255 24 8 (by decide) (by decide) (by decide) (by decide)
  unfold f_K_becomeUnpacked upc
  rw [q1, q2, q3]
  rfl
theorem rf_load (d : Nat → Cp) (a : Int32) (fM : Nat → Int32) (gU : Nat → Bool) (x : Int32) : f_R_load a fM gU d x = va_up d a.toNatClampNeg (upc (gU (x / 8).toNatClampNeg) (f_R_word fM x) (f_R_word fM (x + 4))) := by
  unfold f_R_load
  rw [rf_set, bx_uu, va_up_self]
  rfl
theorem mk_r (x : Int32) {m : Int32} (k : Nat) (hm : m.toBitVec.toNat = 2 ^ k - 1) (hk : k ≤ 30) : 0 ≤ (x &&& m).toInt ∧ (x &&& m).toInt < 2 ^ k := by
  obtain ⟨h1, h2⟩ := vp_in_iff.mp (pk_andIn x k hm hk)
  exact ⟨h1, by simpa using h2⟩
theorem rg_upc (t : Bool) (lo hi : Int32) : Rg (upc t lo hi) := by
  have q0 := mk_r hi (m := 1023) 10 (by decide) (by decide)
  have q1 := mk_r (hi >>> ((10 : Int32) &&& 31)) (m := 1023) 10 (by decide) (by decide)
  have q2 := mk_r (hi >>> ((24 : Int32) &&& 31)) (m := 255) 8 (by decide) (by decide)
  have q3 := mk_r (hi >>> ((20 : Int32) &&& 31)) (m := 15) 4 (by decide) (by decide)
  exact ⟨q0.1, by show (hi &&& 1023).toInt ≤ 1023; omega, q1.1, by show ((hi >>> ((10 : Int32) &&& 31)) &&& 1023).toInt ≤ 1023; omega, q2.1, by show ((hi >>> ((24 : Int32) &&& 31)) &&& 255).toInt ≤ 255; omega, q3.1, by show ((hi >>> ((20 : Int32) &&& 31)) &&& 15).toInt ≤ 15; omega⟩
theorem s_19 (hQ : Qr c d) (hM : Mr fB fM) (hT : Tr gT gU) (hG : Gr c) (ha : a.toNatClampNeg < 8) (hb : b.toNatClampNeg < 8) (iv hf : Int32) (j3 : Nat) : Sim fB gT c d (f_M_compute fB gT c 19 a.toNatClampNeg b.toNatClampNeg j3 iv) (f_R_exception 19 a b g iv d) (f_R_doIt 19 a b g iv hf fM gU d) := by
  have hb' : b.toNatClampNeg < 11 := by omega
  refine s_ac 19 iv hf j3 hQ hG ha hb (Or.inr (Or.inr (by decide))) rfl rfl (fun h hs => ?_)
  have hin := bo_19 hs rfl
  have ht := hT _ (in_lt (hin.dv (by decide)))
  refine ac_up (i := a.toNatClampNeg) ha (rg_upc (gU ((k_a (c b.toNatClampNeg) + iv) / 8).toNatClampNeg) (f_R_word fM (k_a (c b.toNatClampNeg) + iv)) (f_R_word fM (k_a (c b.toNatClampNeg) + iv + 4))) hQ hG hM hT ?_ ?_
  · refine (if_pos h).trans ?_
    rw [if_neg (by decide), if_neg (by decide), if_pos rfl, sm32]
    unfold f_E_loadCapability
    rw [cf_unp, wd_eq hM hin.lo, wd_eq hM hin.hi, ht]
  · have e : f_R_doIt 19 a b g iv hf fM gU d = (fM, gU, f_R_move (f_R_load a fM gU d (k_a (d b.toNatClampNeg) + iv)) 8 (k_a (d ((8 : Int32).toNatClampNeg)) + 4 + 0)) := rfl
    rw [e, rf_load, hQ _ hb']
theorem ac_st {f1 f2 : Nat → Int32} {g1 g2 : Nat → Bool} (hQ : Qr c d) (hG : Gr c) (hM : Mr f1 f2) (hT : Tr g1 g2) {X : Int32 × (Nat → Int32) × (Nat → Bool) × (Nat → Cp)} {Y : (Nat → Int32) × (Nat → Bool) × (Nat → Cp)} {n : Int32} (hX : X = (0, f1, g1, c)) (hY : Y = (f2, g2, f_R_move d 8 n)) :
    ∃ (f1 : Nat → Int32) (g1 : Nat → Bool) (c1 : Nat → Cp) (f2 : Nat → Int32) (g2 : Nat → Bool) (d2 : Nat → Cp), X = (0, f1, g1, c1) ∧ Y = (f2, g2, f_R_move d2 8 n) ∧ Mr f1 f2 ∧ Tr g1 g2 ∧ Qr c1 d2 ∧ c1 8 = c 8 ∧ Gr c1 :=
  ⟨f1, g1, c, f2, g2, d, hX, hY, hM, hT, hQ, rfl, hG⟩
theorem s_20 (hQ : Qr c d) (hM : Mr fB fM) (hT : Tr gT gU) (hG : Gr c) (ha : a.toNatClampNeg < 8) (hb : b.toNatClampNeg < 8) (iv hf : Int32) (j3 : Nat) : Sim fB gT c d (f_M_compute fB gT c 20 a.toNatClampNeg b.toNatClampNeg j3 iv) (f_R_exception 20 a b g iv d) (f_R_doIt 20 a b g iv hf fM gU d) := by
  have hb' : b.toNatClampNeg < 11 := by omega
  refine s_ac 20 iv hf j3 hQ hG ha hb (Or.inl (by decide)) rfl rfl (fun h hs => ?_)
  have q := st_e (xt := k_a (c b.toNatClampNeg) + iv) (wd := k_a (c a.toNatClampNeg)) (ct := f_M_bytesOf 20) (by decide) (by decide) hM hT
  refine ac_st hQ hG q.1 q.2 ?_ ?_
  · refine (if_pos h).trans ?_
    rw [if_neg (by decide), if_neg (by decide), if_neg (by decide), if_neg (by decide), sm32]
  · have e : f_R_doIt 20 a b g iv hf fM gU d = ((f_R_store fM gU (k_a (d b.toNatClampNeg) + iv) (k_a (d a.toNatClampNeg)) (f_R_size 20)).1, (f_R_store fM gU (k_a (d b.toNatClampNeg) + iv) (k_a (d a.toNatClampNeg)) (f_R_size 20)).2, f_R_move d 8 (k_a (d ((8 : Int32).toNatClampNeg)) + 4 + 0)) := rfl
    rw [e, hQ _ hb', hQ _ (show a.toNatClampNeg < 11 by omega), show f_R_size 20 = f_M_bytesOf 20 by decide]
theorem s_21 (hQ : Qr c d) (hM : Mr fB fM) (hT : Tr gT gU) (hG : Gr c) (ha : a.toNatClampNeg < 8) (hb : b.toNatClampNeg < 8) (iv hf : Int32) (j3 : Nat) : Sim fB gT c d (f_M_compute fB gT c 21 a.toNatClampNeg b.toNatClampNeg j3 iv) (f_R_exception 21 a b g iv d) (f_R_doIt 21 a b g iv hf fM gU d) := by
  have hb' : b.toNatClampNeg < 11 := by omega
  refine s_ac 21 iv hf j3 hQ hG ha hb (Or.inr (Or.inl (by decide))) rfl rfl (fun h hs => ?_)
  have q := st_e (xt := k_a (c b.toNatClampNeg) + iv) (wd := k_a (c a.toNatClampNeg)) (ct := f_M_bytesOf 21) (by decide) (by decide) hM hT
  refine ac_st hQ hG q.1 q.2 ?_ ?_
  · refine (if_pos h).trans ?_
    rw [if_neg (by decide), if_neg (by decide), if_neg (by decide), if_neg (by decide), sm32]
  · have e : f_R_doIt 21 a b g iv hf fM gU d = ((f_R_store fM gU (k_a (d b.toNatClampNeg) + iv) (k_a (d a.toNatClampNeg)) (f_R_size 21)).1, (f_R_store fM gU (k_a (d b.toNatClampNeg) + iv) (k_a (d a.toNatClampNeg)) (f_R_size 21)).2, f_R_move d 8 (k_a (d ((8 : Int32).toNatClampNeg)) + 4 + 0)) := rfl
    rw [e, hQ _ hb', hQ _ (show a.toNatClampNeg < 11 by omega), show f_R_size 21 = f_M_bytesOf 21 by decide]
theorem sc_eq2 (hM : Mr fB fM) (hT : Tr gT gU) (hQ : Qr c d) (hG : Gr c) (ha : a.toNatClampNeg < 8) (x : Int32) : Mr (f_E_storeCapability fB gT c x a.toNatClampNeg).1 (f_R_store (f_R_store fM gU x (k_a (d a.toNatClampNeg)) 4).1 (f_R_store fM gU x (k_a (d a.toNatClampNeg)) 4).2 (x + 4) (((k_b (d a.toNatClampNeg) + 1024 * k_t (d a.toNatClampNeg)) + 1048576 * k_y (d a.toNatClampNeg)) + (k_p (d a.toNatClampNeg) <<< ((24 : Int32) &&& 31))) 4).1 ∧ Tr (f_E_storeCapability fB gT c x a.toNatClampNeg).2 (va_up (f_R_store (f_R_store fM gU x (k_a (d a.toNatClampNeg)) 4).1 (f_R_store fM gU x (k_a (d a.toNatClampNeg)) 4).2 (x + 4) (((k_b (d a.toNatClampNeg) + 1024 * k_t (d a.toNatClampNeg)) + 1048576 * k_y (d a.toNatClampNeg)) + (k_p (d a.toNatClampNeg) <<< ((24 : Int32) &&& 31))) 4).2 (x / 8).toNatClampNeg (k_v (d a.toNatClampNeg))) := by
  have ha' : a.toNatClampNeg < 11 := by omega
  obtain ⟨b0, b1, t0, t1, p0, p1, y0, y1⟩ := hG _ ha'
  have q1 := st_e (xt := x) (wd := k_a (c a.toNatClampNeg)) (ct := 4) (by decide) (by decide) hM hT
  have q2 := st_e (xt := x + 4) (wd := f_K_packed c a.toNatClampNeg) (ct := 4) (by decide) (by decide) q1.1 q1.2
  have e : f_K_packed c a.toNatClampNeg = ((k_b (c a.toNatClampNeg) + 1024 * k_t (c a.toNatClampNeg)) + 1048576 * k_y (c a.toNatClampNeg)) + (k_p (c a.toNatClampNeg) <<< ((24 : Int32) &&& 31)) := pk_e b0 b1 t0 t1 p0 p1 y0 y1
  unfold f_E_storeCapability
  rw [← hQ _ ha', ← e]
  exact ⟨q2.1, q2.2.up _ _⟩
theorem s_22 (hQ : Qr c d) (hM : Mr fB fM) (hT : Tr gT gU) (hG : Gr c) (ha : a.toNatClampNeg < 8) (hb : b.toNatClampNeg < 8) (iv hf : Int32) (j3 : Nat) : Sim fB gT c d (f_M_compute fB gT c 22 a.toNatClampNeg b.toNatClampNeg j3 iv) (f_R_exception 22 a b g iv d) (f_R_doIt 22 a b g iv hf fM gU d) := by
  have hb' : b.toNatClampNeg < 11 := by omega
  have e2 : f_R_exception 22 a b g iv d = f_R_allow d b ((k_a (d b.toNatClampNeg)).toInt64 + iv.toInt64) (f_M_bytesOf 22) (f_M_permissionsFor c 22 a.toNatClampNeg) := by
    have x : f_M_permissionsFor c 22 a.toNatClampNeg = f_M_permissionsFor d 22 a.toNatClampNeg := by
      unfold f_M_permissionsFor
      rw [hQ _ (show a.toNatClampNeg < 11 by omega)]
    rw [x]
    rfl
  refine s_ac 22 iv hf j3 hQ hG ha hb (Or.inr (Or.inr (by decide))) rfl e2 (fun h hs => ?_)
  have q := sc_eq2 (a := a) hM hT hQ hG ha (k_a (c b.toNatClampNeg) + iv)
  rw [hQ _ hb'] at q
  refine ac_st hQ hG q.1 q.2 ?_ rfl
  refine (if_pos h).trans ?_
  rw [if_neg (by decide), if_neg (by decide), if_neg (by decide), if_pos rfl, sm32, hQ _ hb']
end Acc
