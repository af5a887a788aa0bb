def f_M_access (fB : Nat → Int32) (gT : Nat → Bool) (cK : Nat → Cp) (cd : Int32) (j1 : Nat) (j2 : Nat) (xl : Int64) : Int32 × (Nat → Int32) × (Nat → Bool) × (Nat → Cp) :=
  if (f_K_refusal cK j2 (f_M_permissionsFor cK cd j1) xl (f_M_bytesOf cd)) = (0 : Int32) then (if cd = (17 : Int32) then ((0 : Int32), fB, gT, (f_K_becomeNumber cK j1 (f_E_byteAt fB xl.toInt32)))
    else if cd = (18 : Int32) then ((0 : Int32), fB, gT, (f_K_becomeNumber cK j1 (f_E_wordAt fB xl.toInt32)))
    else if cd = (19 : Int32) then ((0 : Int32), fB, gT, (f_E_loadCapability fB gT cK xl.toInt32 j1))
    else if cd = (22 : Int32) then ((0 : Int32), (f_E_storeCapability fB gT cK xl.toInt32 j1).1, (f_E_storeCapability fB gT cK xl.toInt32 j1).2, cK)
    else ((0 : Int32), (f_E_store fB gT xl.toInt32 (k_a (cK j1)) (f_M_bytesOf cd)).1, (f_E_store fB gT xl.toInt32 (k_a (cK j1)) (f_M_bytesOf cd)).2, cK))
  else ((f_K_refusal cK j2 (f_M_permissionsFor cK cd j1) xl (f_M_bytesOf cd)), fB, gT, cK)
set_option maxHeartbeats 4000000 in
set_option maxRecDepth 100000 in
theorem c_M_access (l : Launch) (D : va_G) (q : Nat → ClassId) (xa ad : Nat → Nat) (sS : Int32) (sC : Int32) (fB : Nat → Int32) (gT : Nat → Bool) (cK : Nat → Cp) (A : Nat → Prop) (hD : va_D A (mW q xa ad sS sC fB gT cK)) (cd : Int32) (j1 : Nat) (hj1 : j1 < 12) (j2 : Nat) (hj2 : j2 < 12) (xl : Int64) (hg : Rg (cK j2)) (hl0 : -4294967296 ≤ xl.toInt) (hl1 : xl.toInt ≤ 4294967296) : WMi l y_M_access b_M_access 8 (some .int) ({ frames := 3, cells := 0, slots := 0, locals := 64 }) [.ref (xa 0), .int cd, .ref (ad j1), .ref (ad j2), .long xl] D (tyM q) (mW q xa ad sS sC fB gT cK) (mW q xa ad sS sC ((f_M_access fB gT cK cd j1 j2 xl).2.1) ((f_M_access fB gT cK cd j1 j2 xl).2.2.1) ((f_M_access fB gT cK cd j1 j2 xl).2.2.2)) A (((f_M_access fB gT cK cd j1 j2 xl).1)) := by
  sorry
