theorem ml_L_45 : Cond.methodLink "CapMachineLaw" 45 y_M_run ∈ TB := tbT 97 (by decide +kernel) rfl
theorem ml_L_49 : Cond.methodLink "CapMachineLaw" 49 y_M_state ∈ TB := tbT 243 (by decide +kernel) rfl
theorem ml_L_53 : Cond.methodLink "CapMachineLaw" 53 y_M_cause ∈ TB := tbT 247 (by decide +kernel) rfl
theorem ml_L_65 : Cond.methodLink "CapMachineLaw" 65 y_M_tagged ∈ TB := tbT 251 (by decide +kernel) rfl
theorem ml_L_36 : Cond.methodLink "CapMachineLaw" 36 y_R_grant ∈ TB := tbT 415 (by decide +kernel) rfl
theorem ml_L_37 : Cond.methodLink "CapMachineLaw" 37 y_R_thrown ∈ TB := tbT 411 (by decide +kernel) rfl
theorem ml_L_44 : Cond.methodLink "CapMachineLaw" 44 y_R_poke ∈ TB := tbT 422 (by decide +kernel) rfl
theorem ml_L_48 : Cond.methodLink "CapMachineLaw" 48 y_R_run ∈ TB := tbT 430 (by decide +kernel) rfl
theorem ml_L_52 : Cond.methodLink "CapMachineLaw" 52 y_R_state ∈ TB := tbT 556 (by decide +kernel) rfl
theorem ml_L_56 : Cond.methodLink "CapMachineLaw" 56 y_R_cause ∈ TB := tbT 560 (by decide +kernel) rfl
theorem ml_L_60 : Cond.methodLink "CapMachineLaw" 60 y_R_look ∈ TB := tbT 564 (by decide +kernel) rfl
theorem ml_L_64 : Cond.methodLink "CapMachineLaw" 64 y_R_peek ∈ TB := tbT 572 (by decide +kernel) rfl
theorem ml_L_69 : Cond.methodLink "CapMachineLaw" 69 y_R_tagged ∈ TB := tbT 576 (by decide +kernel) rfl
theorem ml_L_27 : Cond.methodLink "CapMachineLaw" 27 y_M_init ∈ TB := tbT 12 (by decide +kernel) rfl
theorem ml_L_30 : Cond.methodLink "CapMachineLaw" 30 y_R_init ∈ TB := tbT 347 (by decide +kernel) rfl
-- the law's own body
section LwWorld
variable {D : va_G} {cl : List vw_C} {a r o a' r' o' ws ws' : va_W} {H H1 : Heap} {A : Nat → Prop}
theorem P_mem : va_P D cl ws H ↔ ∀ q ∈ ws, va_at D cl q H := ⟨fun h q hq => by
  obtain ⟨k, hk⟩ := List.getElem?_of_mem hq
  exact h k q hk, fun h k q hk => h q (List.mem_of_getElem? hk)⟩
theorem P_incl (h : va_P D cl ws H) (hs : ∀ q ∈ ws', q ∈ ws) : va_P D cl ws' H := P_mem.mpr (fun q hq => P_mem.mp h q (hs q hq))
theorem D_rot (h : va_D A (a ++ (r ++ o))) : va_D A (r ++ (o ++ a)) := by
  have h1 : va_D A (([] ++ a) ++ (r ++ o)) := h
  have h2 : va_D A ((r ++ o) ++ a) := h1.swap
  rw [List.append_assoc] at h2
  exact h2
theorem D_o (h : va_D A (a ++ (r ++ o))) : va_D A ((a ++ o) ++ r) := by
  rw [← List.append_assoc] at h
  exact h.swap
theorem P_rot (h : va_P D cl (a ++ (r ++ o)) H) : va_P D cl (r ++ (o ++ a)) H := P_incl h (fun q hq => by
  simp only [List.mem_append] at hq ⊢
  rcases hq with h | h | h
  · exact Or.inr (Or.inl h)
  · exact Or.inr (Or.inr h)
  · exact Or.inl h)
theorem P_o (h : va_P D cl (a ++ (r ++ o)) H) : va_P D cl ((a ++ o) ++ r) H := P_incl h (fun q hq => by
  simp only [List.mem_append] at hq ⊢
  rcases hq with (h | h) | h
  · exact Or.inl h
  · exact Or.inr (Or.inr h)
  · exact Or.inr (Or.inl h))
theorem P_ob (h : va_P D cl ((a ++ o) ++ r) H) : va_P D cl (a ++ (r ++ o)) H := P_incl h (fun q hq => by
  simp only [List.mem_append] at hq ⊢
  rcases hq with h | h | h
  · exact Or.inl (Or.inl h)
  · exact Or.inr h
  · exact Or.inl (Or.inr h))
theorem fr_a (hP : va_P D cl (a ++ (r ++ o)) H) (hD : va_D A (a ++ (r ++ o))) (hk : ∀ q : Nat, q < H.size → ¬ Ain a q → H1[q]? = H[q]?) (h1 : va_P D cl a' H1) : va_P D cl (a' ++ (r ++ o)) H1 := va_P.app h1 (P_fr hP hD hk)
theorem fr_r (hP : va_P D cl (a ++ (r ++ o)) H) (hD : va_D A (a ++ (r ++ o))) (hk : ∀ q : Nat, q < H.size → ¬ Ain r q → H1[q]? = H[q]?) (h1 : va_P D cl r' H1) : va_P D cl (a ++ (r' ++ o)) H1 :=
  P_rot (P_rot (va_P.app h1 (P_fr (P_rot hP) (D_rot hD) hk)))
theorem fr_o (hP : va_P D cl (a ++ (r ++ o)) H) (hD : va_D A (a ++ (r ++ o))) (hk : ∀ q : Nat, q < H.size → ¬ Ain (a ++ o) q → H1[q]? = H[q]?) (h1 : va_P D cl (a' ++ o') H1) : va_P D cl (a' ++ (r ++ o')) H1 :=
  P_ob (va_P.app h1 (P_fr (P_o hP) (D_o hD) hk))
end LwWorld
section LwCalls
variable {p : Program} {l : Launch} {e : Env} {R : Room} {s : State} {m : MethodId} {args : Array Value} {below : List Frame} {meth : Method} {c : Code} {H : Heap} {locs : List Loc} {cells slots : Nat} {Q : State → Prop}
variable {cc : ByteArray} {pc : Nat} {ls : Array Slot} {D : va_G} {A A1 : Nat → Prop} {tys : List (ClassId × FieldType)} {ws ws' : va_W} {H0 : Heap} {own : String} {nL index n k o : Nat}
variable {y : MethodName} {b : ByteArray} {r : Option FieldType} {rm : Room} {As st0 : List Value} {v : Int32}
theorem c_vA (rest : List Value) (S : CallFix p m c cc nL s args TB own) (hM : WMv l y b n r rm (.ref o :: As) D tys ws ws' A1) (mf : MFv y b n r k) (hl : Cond.methodLink own index y ∈ TB) (hK : va_K D cls tys s) (hN : NL s) (hP : va_P D cls ws H) (hS : va_S A H0 H locs) (hsub : ∀ q, A1 q → A q) (q0 ci : Nat) {fs : List Value} {T : u_T} {N : Nat} (he : ws[q0]? = some (o, .inr (ci, fs))) (hc : cls[ci]? = some (y.cls, T, N)) (hR : Rok rm R n) (hk : As.length = k) (hsz : ls.size = nL) (hst : st0 = As.reverse ++ .ref o :: rest) (hw : (rest.map fun v => v.category).sum ≤ 8) (hdg : decode cc pc = .ok (.invokevirtual index, 3)) (hcs : cells ≤ R.cells ∧ slots ≤ R.slots)
    (kk : ∀ (H1 : Heap) (locs1 : List Loc), va_P D cls ws' H1 → (∀ q : Nat, q < H.size → ¬ A1 q → H1[q]? = H[q]?) → va_S A H0 H1 locs1 → W p l e R s m args below meth c H1 locs1 cells slots Q (F0 m (pc + 3) ls rest)) : W p l e R s m args below meth c H locs cells slots Q (F0 m pc ls st0) :=
  va_callv (va_runV (C := y.cls) S hM ⟨callB_of k S.2.2.2.2 (gi mf.1) rfl hR.1 hR.2.1 (S.2.2.2.2 _ mf.2.1) (S.2.2.2.2 _ hl) mf.2.2.2.2 hR.2.2, S.2.2.2.2 _ mf.2.2.1, S.2.2.2.2 _ mf.2.2.2.1⟩ ⟨bl_W, va_recv hK hP hc he, pw_U hK hN hP⟩ rfl hk hsz hst (lv_room hw) hdg hcs) hS (fun q _ h => hsub q h) hsub (fun _ t H1 locs1 ht _ _ hB _ hk1 hS1 => kk H1 locs1 (by rw [← ht]; exact hB) hk1 hS1)
theorem c_iA (rest : List Value) (S : CallFix p m c cc nL s args TB own) (hM : WMi l y b n r rm (.ref o :: As) D tys ws ws' A1 v) (mf : MFv y b n r k) (hl : Cond.methodLink own index y ∈ TB) (hK : va_K D cls tys s) (hN : NL s) (hP : va_P D cls ws H) (hS : va_S A H0 H locs) (hsub : ∀ q, A1 q → A q) (q0 ci : Nat) {fs : List Value} {T : u_T} {N : Nat} (he : ws[q0]? = some (o, .inr (ci, fs))) (hc : cls[ci]? = some (y.cls, T, N)) (hR : Rok rm R n) (hk : As.length = k) (hsz : ls.size = nL) (hst : st0 = As.reverse ++ .ref o :: rest) (hw : (rest.map fun v => v.category).sum ≤ 8) (hdg : decode cc pc = .ok (.invokevirtual index, 3)) (hcs : cells ≤ R.cells ∧ slots ≤ R.slots)
    (kk : ∀ (H1 : Heap) (locs1 : List Loc), va_P D cls ws' H1 → (∀ q : Nat, q < H.size → ¬ A1 q → H1[q]? = H[q]?) → va_S A H0 H1 locs1 → W p l e R s m args below meth c H1 locs1 cells slots Q (F0 m (pc + 3) ls (.int v :: rest))) : W p l e R s m args below meth c H locs cells slots Q (F0 m pc ls st0) :=
  va_calli (va_runV (C := y.cls) S hM ⟨callB_of k S.2.2.2.2 (gi mf.1) rfl hR.1 hR.2.1 (S.2.2.2.2 _ mf.2.1) (S.2.2.2.2 _ hl) mf.2.2.2.2 hR.2.2, S.2.2.2.2 _ mf.2.2.1, S.2.2.2.2 _ mf.2.2.2.1⟩ ⟨bl_W, va_recv hK hP hc he, pw_U hK hN hP⟩ rfl hk hsz hst (lv_room hw) hdg hcs) hS (fun q _ h => hsub q h) hsub (fun z _ t H1 locs1 ht _ hz hB _ hk1 hS1 => by rw [hz]; exact kk H1 locs1 (by rw [← ht]; exact hB) hk1 hS1)
theorem ni_add (i k : Nat) : nI i + nI k = nI (i + k) := (Int32.ofNat_add i k).symm
/-- script[i + k] -/
theorem sc_ld {i L bs : Nat} {xs : Nat → Int32} {rest : List Value} {lv : List (Nat × Value)} (k : Nat) {n : Int} (S : CallFix p m c cc nL s args TB own) (hl : lv_has ls 7 lv) (h0 : lv_has ls 7 lv → ls[0]? = some (.val (.ref bs))) (h4 : lv_has ls 7 lv → ls[4]? = some (.val (.int (nI i)))) (hX : va_X bs L xs s H0) (hbl : bs < H0.size) (hbA : ¬ A bs) (hS : va_S A H0 H locs) (hik : i + k < L) (hL : L ≤ 3072) (hn : Int32.ofInt n = nI k)
    (d1 : decode cc pc = .ok (.aload_n 0, 1)) (d2 : decode cc (pc + 1) = .ok (.iload 4, 2)) (d3 : decode cc (pc + 3) = .ok (.iconst n, 1)) (d4 : decode cc (pc + 4) = .ok (.iadd, 1)) (d5 : decode cc (pc + 5) = .ok (.iaload, 1))
    (kk : W p l e R s m args below meth c H locs cells slots Q (F0 m (pc + 6) ls (.int (xs (i + k)) :: rest))) : W p l e R s m args below meth c H locs cells slots Q (F0 m pc ls rest) := by
  have hx := S.1
  have hb := S.2.1
  refine lv_aload_n hx hb d1 rfl (h0 hl) ?_
  refine lv_iload hx hb d2 (h4 hl) ?_
  refine lv_iconst hx hb d3 hn ?_
  refine lv_iadd hx hb d4 ?_
  rw [ni_add]
  refine va_sld hx hb hX hbl hbA hS (nI_in hik (by omega)) d5 ?_
  rw [nI_clamp (by omega)]
  exact kk
end LwCalls
theorem eight (x : Int32) : x &&& 7 = 0 ∨ x &&& 7 = 1 ∨ x &&& 7 = 2 ∨ x &&& 7 = 3 ∨ x &&& 7 = 4 ∨ x &&& 7 = 5 ∨ x &&& 7 = 6 ∨ x &&& 7 = 7 := by
  have q := mk_r x (m := 7) 3 (by decide) (by decide)
  generalize x &&& 7 = w at q ⊢
  have e0 : (0 : Int32).toInt = 0 := by decide
  have e1 : (1 : Int32).toInt = 1 := by decide
  have e2 : (2 : Int32).toInt = 2 := by decide
  have e3 : (3 : Int32).toInt = 3 := by decide
  have e4 : (4 : Int32).toInt = 4 := by decide
  have e5 : (5 : Int32).toInt = 5 := by decide
  have e6 : (6 : Int32).toInt = 6 := by decide
  have e7 : (7 : Int32).toInt = 7 := by decide
  have h : w.toInt = 0 ∨ w.toInt = 1 ∨ w.toInt = 2 ∨ w.toInt = 3 ∨ w.toInt = 4 ∨ w.toInt = 5 ∨ w.toInt = 6 ∨ w.toInt = 7 := by omega
  simp only [← Int32.toInt_inj, e0, e1, e2, e3, e4, e5, e6, e7]
  exact h
theorem in_L : Cond.initialized R_L ∈ TB := tbT 0 (by decide +kernel) rfl
abbrev MFw (y : MethodName) (k : Nat) : Prop := Cond.static y ∈ TB ∧ MFd y k
def lwW (q : Nat → ClassId) (xa ad : Nat → Nat) (q2 : Nat → ClassId) (xb : Nat → Nat) (ob : Nat) (cL : ClassId) (sS sC : Int32) (fB : Nat → Int32) (gT : Nat → Bool) (cK : Nat → Cp) (th ca st co ra rb rc im hf : Int32) (rz : Bool) (fM : Nat → Int32) (gU : Nat → Bool) (dK : Nat → Cp) (fo : Nat → Int64) : va_W :=
  mW q xa ad sS sC fB gT cK ++ (rW q2 xb th ca st co ra rb rc im hf rz fM gU dK ++ [(ob, .inl (cL, 1, .inr (.inl fo)))])
/-- what stands between two calls of the script: class and reference say the same -/
def LwI (D : va_G) (q : Nat → ClassId) (xa ad : Nat → Nat) (q2 : Nat → ClassId) (xb : Nat → Nat) (ob : Nat) (cL : ClassId) (H : Heap) : Prop :=
  ∃ (sS sC : Int32) (fB : Nat → Int32) (gT : Nat → Bool) (cK : Nat → Cp) (th co ra rb rc im hf : Int32) (rz : Bool) (fM : Nat → Int32) (gU : Nat → Bool) (dK : Nat → Cp) (fo : Nat → Int64),
    va_P D cls (lwW q xa ad q2 xb ob cL sS sC fB gT cK th sC sS co ra rb rc im hf rz fM gU dK fo) H ∧ Qr cK dK ∧ Mr fB fM ∧ Tr gT gU ∧ Gr cK
theorem ml_L_31 : Cond.methodLink R_L 31 y_L_grant ∈ TB := tbT 255 (by decide +kernel) rfl
theorem mw_L_grant : MFw y_L_grant 6 := ⟨tbT 256 (by decide +kernel) rfl, by decide, by decide, by decide +kernel⟩
theorem ml_L_41 : Cond.methodLink R_L 41 y_L_poke ∈ TB := tbT 324 (by decide +kernel) rfl
theorem mw_L_poke : MFw y_L_poke 4 := ⟨tbT 325 (by decide +kernel) rfl, by decide, by decide, by decide +kernel⟩
theorem ml_L_57 : Cond.methodLink R_L 57 y_L_look ∈ TB := tbT 331 (by decide +kernel) rfl
theorem mw_L_look : MFw y_L_look 4 := ⟨tbT 332 (by decide +kernel) rfl, by decide, by decide, by decide +kernel⟩
theorem ml_L_61 : Cond.methodLink R_L 61 y_L_peek ∈ TB := tbT 338 (by decide +kernel) rfl
theorem mw_L_peek : MFw y_L_peek 3 := ⟨tbT 339 (by decide +kernel) rfl, by decide, by decide, by decide +kernel⟩
theorem d_L_0 : decode code 0 = .ok (.new 8, 3) := by decide +kernel
theorem d_L_3 : decode code 3 = .ok (.dup, 1) := by decide +kernel
theorem d_L_4 : decode code 4 = .ok (.invokespecial 27, 3) := by decide +kernel
theorem d_L_7 : decode code 7 = .ok (.astore_n 1, 1) := by decide +kernel
theorem d_L_8 : decode code 8 = .ok (.new 28, 3) := by decide +kernel
theorem d_L_11 : decode code 11 = .ok (.dup, 1) := by decide +kernel
theorem d_L_12 : decode code 12 = .ok (.invokespecial 30, 3) := by decide +kernel
theorem d_L_15 : decode code 15 = .ok (.astore_n 2, 1) := by decide +kernel
theorem d_L_16 : decode code 16 = .ok (.iconst 1, 1) := by decide +kernel
theorem d_L_17 : decode code 17 = .ok (.newarray .long, 2) := by decide +kernel
theorem d_L_19 : decode code 19 = .ok (.astore_n 3, 1) := by decide +kernel
theorem d_L_20 : decode code 20 = .ok (.iconst 0, 1) := by decide +kernel
theorem d_L_21 : decode code 21 = .ok (.istore 4, 2) := by decide +kernel
theorem d_L_23 : decode code 23 = .ok (.iload 4, 2) := by decide +kernel
theorem d_L_25 : decode code 25 = .ok (.aload_n 0, 1) := by decide +kernel
theorem d_L_26 : decode code 26 = .ok (.arraylength, 1) := by decide +kernel
theorem d_L_27 : decode code 27 = .ok (.bipush 6, 2) := by decide +kernel
theorem d_L_29 : decode code 29 = .ok (.isub, 1) := by decide +kernel
theorem d_L_30 : decode code 30 = .ok (.if_icmp .gt 408, 3) := by decide +kernel
theorem d_L_33 : decode code 33 = .ok (.aload_n 0, 1) := by decide +kernel
theorem d_L_34 : decode code 34 = .ok (.iload 4, 2) := by decide +kernel
theorem d_L_36 : decode code 36 = .ok (.iaload, 1) := by decide +kernel
theorem d_L_37 : decode code 37 = .ok (.bipush 7, 2) := by decide +kernel
theorem d_L_39 : decode code 39 = .ok (.iand, 1) := by decide +kernel
theorem d_L_40 : decode code 40 = .ok (.tableswitch 392 0 7 #[48, 132, 192, 217, 230, 243, 311, 367], 48) := by decide +kernel
theorem d_L_88 : decode code 88 = .ok (.aload_n 1, 1) := by decide +kernel
theorem d_L_89 : decode code 89 = .ok (.aload_n 0, 1) := by decide +kernel
theorem d_L_90 : decode code 90 = .ok (.iload 4, 2) := by decide +kernel
theorem d_L_92 : decode code 92 = .ok (.iconst 1, 1) := by decide +kernel
theorem d_L_93 : decode code 93 = .ok (.iadd, 1) := by decide +kernel
theorem d_L_94 : decode code 94 = .ok (.iaload, 1) := by decide +kernel
theorem d_L_95 : decode code 95 = .ok (.aload_n 0, 1) := by decide +kernel
theorem d_L_96 : decode code 96 = .ok (.iload 4, 2) := by decide +kernel
theorem d_L_98 : decode code 98 = .ok (.iconst 2, 1) := by decide +kernel
theorem d_L_99 : decode code 99 = .ok (.iadd, 1) := by decide +kernel
theorem d_L_100 : decode code 100 = .ok (.iaload, 1) := by decide +kernel
theorem d_L_101 : decode code 101 = .ok (.aload_n 0, 1) := by decide +kernel
theorem d_L_102 : decode code 102 = .ok (.iload 4, 2) := by decide +kernel
theorem d_L_104 : decode code 104 = .ok (.iconst 3, 1) := by decide +kernel
theorem d_L_105 : decode code 105 = .ok (.iadd, 1) := by decide +kernel
theorem d_L_106 : decode code 106 = .ok (.iaload, 1) := by decide +kernel
theorem d_L_107 : decode code 107 = .ok (.aload_n 0, 1) := by decide +kernel
theorem d_L_108 : decode code 108 = .ok (.iload 4, 2) := by decide +kernel
theorem d_L_110 : decode code 110 = .ok (.iconst 4, 1) := by decide +kernel
theorem d_L_111 : decode code 111 = .ok (.iadd, 1) := by decide +kernel
theorem d_L_112 : decode code 112 = .ok (.iaload, 1) := by decide +kernel
theorem d_L_113 : decode code 113 = .ok (.aload_n 0, 1) := by decide +kernel
theorem d_L_114 : decode code 114 = .ok (.iload 4, 2) := by decide +kernel
theorem d_L_116 : decode code 116 = .ok (.iconst 5, 1) := by decide +kernel
theorem d_L_117 : decode code 117 = .ok (.iadd, 1) := by decide +kernel
theorem d_L_118 : decode code 118 = .ok (.iaload, 1) := by decide +kernel
theorem d_L_119 : decode code 119 = .ok (.invokestatic 31, 3) := by decide +kernel
theorem d_L_122 : decode code 122 = .ok (.istore 5, 2) := by decide +kernel
theorem d_L_124 : decode code 124 = .ok (.aload_n 2, 1) := by decide +kernel
theorem d_L_125 : decode code 125 = .ok (.aload_n 0, 1) := by decide +kernel
theorem d_L_126 : decode code 126 = .ok (.iload 4, 2) := by decide +kernel
theorem d_L_128 : decode code 128 = .ok (.iconst 1, 1) := by decide +kernel
theorem d_L_129 : decode code 129 = .ok (.iadd, 1) := by decide +kernel
theorem d_L_130 : decode code 130 = .ok (.iaload, 1) := by decide +kernel
theorem d_L_131 : decode code 131 = .ok (.aload_n 0, 1) := by decide +kernel
theorem d_L_132 : decode code 132 = .ok (.iload 4, 2) := by decide +kernel
theorem d_L_134 : decode code 134 = .ok (.iconst 2, 1) := by decide +kernel
theorem d_L_135 : decode code 135 = .ok (.iadd, 1) := by decide +kernel
theorem d_L_136 : decode code 136 = .ok (.iaload, 1) := by decide +kernel
theorem d_L_137 : decode code 137 = .ok (.aload_n 0, 1) := by decide +kernel
theorem d_L_138 : decode code 138 = .ok (.iload 4, 2) := by decide +kernel
theorem d_L_140 : decode code 140 = .ok (.iconst 3, 1) := by decide +kernel
theorem d_L_141 : decode code 141 = .ok (.iadd, 1) := by decide +kernel
theorem d_L_142 : decode code 142 = .ok (.iaload, 1) := by decide +kernel
theorem d_L_143 : decode code 143 = .ok (.aload_n 0, 1) := by decide +kernel
theorem d_L_144 : decode code 144 = .ok (.iload 4, 2) := by decide +kernel
theorem d_L_146 : decode code 146 = .ok (.iconst 4, 1) := by decide +kernel
theorem d_L_147 : decode code 147 = .ok (.iadd, 1) := by decide +kernel
theorem d_L_148 : decode code 148 = .ok (.iaload, 1) := by decide +kernel
theorem d_L_149 : decode code 149 = .ok (.aload_n 0, 1) := by decide +kernel
theorem d_L_150 : decode code 150 = .ok (.iload 4, 2) := by decide +kernel
theorem d_L_152 : decode code 152 = .ok (.iconst 5, 1) := by decide +kernel
theorem d_L_153 : decode code 153 = .ok (.iadd, 1) := by decide +kernel
theorem d_L_154 : decode code 154 = .ok (.iaload, 1) := by decide +kernel
theorem d_L_155 : decode code 155 = .ok (.invokevirtual 36, 3) := by decide +kernel
theorem d_L_158 : decode code 158 = .ok (.aload_n 2, 1) := by decide +kernel
theorem d_L_159 : decode code 159 = .ok (.invokevirtual 37, 3) := by decide +kernel
theorem d_L_162 : decode code 162 = .ok (.iload 5, 2) := by decide +kernel
theorem d_L_164 : decode code 164 = .ok (.if_icmp .eq 5, 3) := by decide +kernel
theorem d_L_167 : decode code 167 = .ok (.iconst 0, 1) := by decide +kernel
theorem d_L_168 : decode code 168 = .ok (.ireturn, 1) := by decide +kernel
theorem d_L_169 : decode code 169 = .ok (.goto 263, 3) := by decide +kernel
theorem d_L_172 : decode code 172 = .ok (.aload_n 1, 1) := by decide +kernel
theorem d_L_173 : decode code 173 = .ok (.aload_n 0, 1) := by decide +kernel
theorem d_L_174 : decode code 174 = .ok (.iload 4, 2) := by decide +kernel
theorem d_L_176 : decode code 176 = .ok (.iconst 1, 1) := by decide +kernel
theorem d_L_177 : decode code 177 = .ok (.iadd, 1) := by decide +kernel
theorem d_L_178 : decode code 178 = .ok (.iaload, 1) := by decide +kernel
theorem d_L_179 : decode code 179 = .ok (.aload_n 0, 1) := by decide +kernel
theorem d_L_180 : decode code 180 = .ok (.iload 4, 2) := by decide +kernel
theorem d_L_182 : decode code 182 = .ok (.iconst 2, 1) := by decide +kernel
theorem d_L_183 : decode code 183 = .ok (.iadd, 1) := by decide +kernel
theorem d_L_184 : decode code 184 = .ok (.iaload, 1) := by decide +kernel
theorem d_L_185 : decode code 185 = .ok (.aload_n 0, 1) := by decide +kernel
theorem d_L_186 : decode code 186 = .ok (.iload 4, 2) := by decide +kernel
theorem d_L_188 : decode code 188 = .ok (.iconst 3, 1) := by decide +kernel
theorem d_L_189 : decode code 189 = .ok (.iadd, 1) := by decide +kernel
theorem d_L_190 : decode code 190 = .ok (.iaload, 1) := by decide +kernel
theorem d_L_191 : decode code 191 = .ok (.invokestatic 41, 3) := by decide +kernel
theorem d_L_194 : decode code 194 = .ok (.istore 5, 2) := by decide +kernel
theorem d_L_196 : decode code 196 = .ok (.aload_n 2, 1) := by decide +kernel
theorem d_L_197 : decode code 197 = .ok (.aload_n 0, 1) := by decide +kernel
theorem d_L_198 : decode code 198 = .ok (.iload 4, 2) := by decide +kernel
theorem d_L_200 : decode code 200 = .ok (.iconst 1, 1) := by decide +kernel
theorem d_L_201 : decode code 201 = .ok (.iadd, 1) := by decide +kernel
theorem d_L_202 : decode code 202 = .ok (.iaload, 1) := by decide +kernel
theorem d_L_203 : decode code 203 = .ok (.aload_n 0, 1) := by decide +kernel
theorem d_L_204 : decode code 204 = .ok (.iload 4, 2) := by decide +kernel
theorem d_L_206 : decode code 206 = .ok (.iconst 2, 1) := by decide +kernel
theorem d_L_207 : decode code 207 = .ok (.iadd, 1) := by decide +kernel
theorem d_L_208 : decode code 208 = .ok (.iaload, 1) := by decide +kernel
theorem d_L_209 : decode code 209 = .ok (.aload_n 0, 1) := by decide +kernel
theorem d_L_210 : decode code 210 = .ok (.iload 4, 2) := by decide +kernel
theorem d_L_212 : decode code 212 = .ok (.iconst 3, 1) := by decide +kernel
theorem d_L_213 : decode code 213 = .ok (.iadd, 1) := by decide +kernel
theorem d_L_214 : decode code 214 = .ok (.iaload, 1) := by decide +kernel
theorem d_L_215 : decode code 215 = .ok (.invokevirtual 44, 3) := by decide +kernel
theorem d_L_218 : decode code 218 = .ok (.aload_n 2, 1) := by decide +kernel
theorem d_L_219 : decode code 219 = .ok (.invokevirtual 37, 3) := by decide +kernel
theorem d_L_222 : decode code 222 = .ok (.iload 5, 2) := by decide +kernel
theorem d_L_224 : decode code 224 = .ok (.if_icmp .eq 5, 3) := by decide +kernel
theorem d_L_227 : decode code 227 = .ok (.iconst 0, 1) := by decide +kernel
theorem d_L_228 : decode code 228 = .ok (.ireturn, 1) := by decide +kernel
theorem d_L_229 : decode code 229 = .ok (.goto 203, 3) := by decide +kernel
theorem d_L_232 : decode code 232 = .ok (.aload_n 1, 1) := by decide +kernel
theorem d_L_233 : decode code 233 = .ok (.aload_n 0, 1) := by decide +kernel
theorem d_L_234 : decode code 234 = .ok (.iload 4, 2) := by decide +kernel
theorem d_L_236 : decode code 236 = .ok (.iconst 1, 1) := by decide +kernel
theorem d_L_237 : decode code 237 = .ok (.iadd, 1) := by decide +kernel
theorem d_L_238 : decode code 238 = .ok (.iaload, 1) := by decide +kernel
theorem d_L_239 : decode code 239 = .ok (.invokevirtual 45, 3) := by decide +kernel
theorem d_L_242 : decode code 242 = .ok (.aload_n 2, 1) := by decide +kernel
theorem d_L_243 : decode code 243 = .ok (.aload_n 0, 1) := by decide +kernel
theorem d_L_244 : decode code 244 = .ok (.iload 4, 2) := by decide +kernel
theorem d_L_246 : decode code 246 = .ok (.iconst 1, 1) := by decide +kernel
theorem d_L_247 : decode code 247 = .ok (.iadd, 1) := by decide +kernel
theorem d_L_248 : decode code 248 = .ok (.iaload, 1) := by decide +kernel
theorem d_L_249 : decode code 249 = .ok (.invokevirtual 48, 3) := by decide +kernel
theorem d_L_252 : decode code 252 = .ok (.if_icmp .eq 180, 3) := by decide +kernel
theorem d_L_255 : decode code 255 = .ok (.iconst 0, 1) := by decide +kernel
theorem d_L_256 : decode code 256 = .ok (.ireturn, 1) := by decide +kernel
theorem d_L_257 : decode code 257 = .ok (.aload_n 1, 1) := by decide +kernel
theorem d_L_258 : decode code 258 = .ok (.invokevirtual 49, 3) := by decide +kernel
theorem d_L_261 : decode code 261 = .ok (.aload_n 2, 1) := by decide +kernel
theorem d_L_262 : decode code 262 = .ok (.invokevirtual 52, 3) := by decide +kernel
theorem d_L_265 : decode code 265 = .ok (.if_icmp .eq 167, 3) := by decide +kernel
theorem d_L_268 : decode code 268 = .ok (.iconst 0, 1) := by decide +kernel
theorem d_L_269 : decode code 269 = .ok (.ireturn, 1) := by decide +kernel
theorem d_L_270 : decode code 270 = .ok (.aload_n 1, 1) := by decide +kernel
theorem d_L_271 : decode code 271 = .ok (.invokevirtual 53, 3) := by decide +kernel
theorem d_L_274 : decode code 274 = .ok (.aload_n 2, 1) := by decide +kernel
theorem d_L_275 : decode code 275 = .ok (.invokevirtual 56, 3) := by decide +kernel
theorem d_L_278 : decode code 278 = .ok (.if_icmp .eq 154, 3) := by decide +kernel
theorem d_L_281 : decode code 281 = .ok (.iconst 0, 1) := by decide +kernel
theorem d_L_282 : decode code 282 = .ok (.ireturn, 1) := by decide +kernel
theorem d_L_283 : decode code 283 = .ok (.aload_n 1, 1) := by decide +kernel
theorem d_L_284 : decode code 284 = .ok (.aload_n 0, 1) := by decide +kernel
theorem d_L_285 : decode code 285 = .ok (.iload 4, 2) := by decide +kernel
theorem d_L_287 : decode code 287 = .ok (.iconst 1, 1) := by decide +kernel
theorem d_L_288 : decode code 288 = .ok (.iadd, 1) := by decide +kernel
theorem d_L_289 : decode code 289 = .ok (.iaload, 1) := by decide +kernel
theorem d_L_290 : decode code 290 = .ok (.aload_n 0, 1) := by decide +kernel
theorem d_L_291 : decode code 291 = .ok (.iload 4, 2) := by decide +kernel
theorem d_L_293 : decode code 293 = .ok (.iconst 2, 1) := by decide +kernel
theorem d_L_294 : decode code 294 = .ok (.iadd, 1) := by decide +kernel
theorem d_L_295 : decode code 295 = .ok (.iaload, 1) := by decide +kernel
theorem d_L_296 : decode code 296 = .ok (.aload_n 3, 1) := by decide +kernel
theorem d_L_297 : decode code 297 = .ok (.invokestatic 57, 3) := by decide +kernel
theorem d_L_300 : decode code 300 = .ok (.istore 5, 2) := by decide +kernel
theorem d_L_302 : decode code 302 = .ok (.aload_n 2, 1) := by decide +kernel
theorem d_L_303 : decode code 303 = .ok (.aload_n 0, 1) := by decide +kernel
theorem d_L_304 : decode code 304 = .ok (.iload 4, 2) := by decide +kernel
theorem d_L_306 : decode code 306 = .ok (.iconst 1, 1) := by decide +kernel
theorem d_L_307 : decode code 307 = .ok (.iadd, 1) := by decide +kernel
theorem d_L_308 : decode code 308 = .ok (.iaload, 1) := by decide +kernel
theorem d_L_309 : decode code 309 = .ok (.aload_n 0, 1) := by decide +kernel
theorem d_L_310 : decode code 310 = .ok (.iload 4, 2) := by decide +kernel
theorem d_L_312 : decode code 312 = .ok (.iconst 2, 1) := by decide +kernel
theorem d_L_313 : decode code 313 = .ok (.iadd, 1) := by decide +kernel
theorem d_L_314 : decode code 314 = .ok (.iaload, 1) := by decide +kernel
theorem d_L_315 : decode code 315 = .ok (.invokevirtual 60, 3) := by decide +kernel
theorem d_L_318 : decode code 318 = .ok (.istore 6, 2) := by decide +kernel
theorem d_L_320 : decode code 320 = .ok (.aload_n 2, 1) := by decide +kernel
theorem d_L_321 : decode code 321 = .ok (.invokevirtual 37, 3) := by decide +kernel
theorem d_L_324 : decode code 324 = .ok (.iload 5, 2) := by decide +kernel
theorem d_L_326 : decode code 326 = .ok (.if_icmp .eq 5, 3) := by decide +kernel
theorem d_L_329 : decode code 329 = .ok (.iconst 0, 1) := by decide +kernel
theorem d_L_330 : decode code 330 = .ok (.ireturn, 1) := by decide +kernel
theorem d_L_331 : decode code 331 = .ok (.iload 5, 2) := by decide +kernel
theorem d_L_333 : decode code 333 = .ok (.ifCond .ne 15, 3) := by decide +kernel
theorem d_L_336 : decode code 336 = .ok (.aload_n 3, 1) := by decide +kernel
theorem d_L_337 : decode code 337 = .ok (.iconst 0, 1) := by decide +kernel
theorem d_L_338 : decode code 338 = .ok (.laload, 1) := by decide +kernel
theorem d_L_339 : decode code 339 = .ok (.iload 6, 2) := by decide +kernel
theorem d_L_341 : decode code 341 = .ok (.i2l, 1) := by decide +kernel
theorem d_L_342 : decode code 342 = .ok (.lcmp, 1) := by decide +kernel
theorem d_L_343 : decode code 343 = .ok (.ifCond .eq 5, 3) := by decide +kernel
theorem d_L_346 : decode code 346 = .ok (.iconst 0, 1) := by decide +kernel
theorem d_L_347 : decode code 347 = .ok (.ireturn, 1) := by decide +kernel
theorem d_L_348 : decode code 348 = .ok (.goto 84, 3) := by decide +kernel
theorem d_L_351 : decode code 351 = .ok (.aload_n 1, 1) := by decide +kernel
theorem d_L_352 : decode code 352 = .ok (.aload_n 0, 1) := by decide +kernel
theorem d_L_353 : decode code 353 = .ok (.iload 4, 2) := by decide +kernel
theorem d_L_355 : decode code 355 = .ok (.iconst 1, 1) := by decide +kernel
theorem d_L_356 : decode code 356 = .ok (.iadd, 1) := by decide +kernel
theorem d_L_357 : decode code 357 = .ok (.iaload, 1) := by decide +kernel
theorem d_L_358 : decode code 358 = .ok (.aload_n 3, 1) := by decide +kernel
theorem d_L_359 : decode code 359 = .ok (.invokestatic 61, 3) := by decide +kernel
theorem d_L_362 : decode code 362 = .ok (.istore 5, 2) := by decide +kernel
theorem d_L_364 : decode code 364 = .ok (.aload_n 2, 1) := by decide +kernel
theorem d_L_365 : decode code 365 = .ok (.aload_n 0, 1) := by decide +kernel
theorem d_L_366 : decode code 366 = .ok (.iload 4, 2) := by decide +kernel
theorem d_L_368 : decode code 368 = .ok (.iconst 1, 1) := by decide +kernel
theorem d_L_369 : decode code 369 = .ok (.iadd, 1) := by decide +kernel
theorem d_L_370 : decode code 370 = .ok (.iaload, 1) := by decide +kernel
theorem d_L_371 : decode code 371 = .ok (.invokevirtual 64, 3) := by decide +kernel
theorem d_L_374 : decode code 374 = .ok (.istore 6, 2) := by decide +kernel
theorem d_L_376 : decode code 376 = .ok (.aload_n 2, 1) := by decide +kernel
theorem d_L_377 : decode code 377 = .ok (.invokevirtual 37, 3) := by decide +kernel
theorem d_L_380 : decode code 380 = .ok (.iload 5, 2) := by decide +kernel
theorem d_L_382 : decode code 382 = .ok (.if_icmp .eq 5, 3) := by decide +kernel
theorem d_L_385 : decode code 385 = .ok (.iconst 0, 1) := by decide +kernel
theorem d_L_386 : decode code 386 = .ok (.ireturn, 1) := by decide +kernel
theorem d_L_387 : decode code 387 = .ok (.iload 5, 2) := by decide +kernel
theorem d_L_389 : decode code 389 = .ok (.ifCond .ne 15, 3) := by decide +kernel
theorem d_L_392 : decode code 392 = .ok (.aload_n 3, 1) := by decide +kernel
theorem d_L_393 : decode code 393 = .ok (.iconst 0, 1) := by decide +kernel
theorem d_L_394 : decode code 394 = .ok (.laload, 1) := by decide +kernel
theorem d_L_395 : decode code 395 = .ok (.iload 6, 2) := by decide +kernel
theorem d_L_397 : decode code 397 = .ok (.i2l, 1) := by decide +kernel
theorem d_L_398 : decode code 398 = .ok (.lcmp, 1) := by decide +kernel
theorem d_L_399 : decode code 399 = .ok (.ifCond .eq 5, 3) := by decide +kernel
theorem d_L_402 : decode code 402 = .ok (.iconst 0, 1) := by decide +kernel
theorem d_L_403 : decode code 403 = .ok (.ireturn, 1) := by decide +kernel
theorem d_L_404 : decode code 404 = .ok (.goto 28, 3) := by decide +kernel
theorem d_L_407 : decode code 407 = .ok (.aload_n 1, 1) := by decide +kernel
theorem d_L_408 : decode code 408 = .ok (.aload_n 0, 1) := by decide +kernel
theorem d_L_409 : decode code 409 = .ok (.iload 4, 2) := by decide +kernel
theorem d_L_411 : decode code 411 = .ok (.iconst 1, 1) := by decide +kernel
theorem d_L_412 : decode code 412 = .ok (.iadd, 1) := by decide +kernel
theorem d_L_413 : decode code 413 = .ok (.iaload, 1) := by decide +kernel
theorem d_L_414 : decode code 414 = .ok (.invokevirtual 65, 3) := by decide +kernel
theorem d_L_417 : decode code 417 = .ok (.aload_n 2, 1) := by decide +kernel
theorem d_L_418 : decode code 418 = .ok (.aload_n 0, 1) := by decide +kernel
theorem d_L_419 : decode code 419 = .ok (.iload 4, 2) := by decide +kernel
theorem d_L_421 : decode code 421 = .ok (.iconst 1, 1) := by decide +kernel
theorem d_L_422 : decode code 422 = .ok (.iadd, 1) := by decide +kernel
theorem d_L_423 : decode code 423 = .ok (.iaload, 1) := by decide +kernel
theorem d_L_424 : decode code 424 = .ok (.invokevirtual 69, 3) := by decide +kernel
theorem d_L_427 : decode code 427 = .ok (.if_icmp .eq 5, 3) := by decide +kernel
theorem d_L_430 : decode code 430 = .ok (.iconst 0, 1) := by decide +kernel
theorem d_L_431 : decode code 431 = .ok (.ireturn, 1) := by decide +kernel
theorem d_L_432 : decode code 432 = .ok (.iinc 4 6, 3) := by decide +kernel
theorem d_L_435 : decode code 435 = .ok (.goto (-412), 3) := by decide +kernel
theorem d_L_438 : decode code 438 = .ok (.iconst 1, 1) := by decide +kernel
theorem d_L_439 : decode code 439 = .ok (.ireturn, 1) := by decide +kernel
