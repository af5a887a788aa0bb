section OwnRows
variable {p : Program} {l : Launch} {e : Env} {R : Room} {s : State} {m : MethodId} {args : Array Value} {below : List Frame} {meth : Method} {c : Code} {H : Heap} {locs : List Loc} {cells slots : Nat} {Q : State → Prop}
variable {cc : ByteArray} {pc : Nat} {ls : Array Slot} {rest : List Value} {D : va_G} {A : Nat → Prop} {tys : List (ClassId × FieldType)} {H0 : Heap} {own : String} {nL index : Nat}
variable {q : Nat → ClassId} {xa ad : Nat → Nat} {sS sC : Int32} {fB : Nat → Int32} {gT : Nat → Bool} {cK : Nat → Cp}
/-- a join: what goes on is said once; the branches come to it -/
theorem jn (pcj : Nat) (lsj : Array Slot) (restj : List Value) (E : Int32) {g : JFrame} (k : W p l e R s m args below meth c H locs cells slots Q (F0 m pcj lsj (.int E :: restj)))
    (h : (∀ z : Int32, z = E → W p l e R s m args below meth c H locs cells slots Q (F0 m pcj lsj (.int z :: restj))) → W p l e R s m args below meth c H locs cells slots Q g) : W p l e R s m args below meth c H locs cells slots Q g := h (fun z hz => by rw [hz]; exact k)
theorem jl (pcj : Nat) (lsj : Array Slot) (restj : List Value) (E : Int64) {g : JFrame} (k : W p l e R s m args below meth c H locs cells slots Q (F0 m pcj lsj (.long E :: restj)))
    (h : (∀ z : Int64, z = E → W p l e R s m args below meth c H locs cells slots Q (F0 m pcj lsj (.long z :: restj))) → W p l e R s m args below meth c H locs cells slots Q g) : W p l e R s m args below meth c H locs cells slots Q g := h (fun z hz => by rw [hz]; exact k)
/-- the same place told otherwise -/
theorem cv {x y : Int32} (h : x = y) (k : W p l e R s m args below meth c H locs cells slots Q (F0 m pc ls (.int y :: rest))) : W p l e R s m args below meth c H locs cells slots Q (F0 m pc ls (.int x :: rest)) := by rw [h]; exact k
/-- branches over a boolean -/
theorem zb_eq {X : Bool} (hexec : p.tables.exec = Jvm.exec) (hb : c.code = cc) {off : Int} {tgt : Nat} (hdg : decode cc pc = .ok (.ifCond .eq off, 3)) (ht : (pc : Int) + off = (tgt : Int))
    (kt : X = false → W p l e R s m args below meth c H locs cells slots Q (F0 m tgt ls rest)) (kf : X = true → W p l e R s m args below meth c H locs cells slots Q (F0 m (pc + 3) ls rest)) : W p l e R s m args below meth c H locs cells slots Q (F0 m pc ls (.int (b2i X) :: rest)) :=
  lv_if_eq hexec hb hdg ht (fun h => kt ((b2i_0 X).mp h)) (fun h => kf (by cases X with
    | true => rfl
    | false => exact absurd rfl h))
theorem zb_ne {X : Bool} (hexec : p.tables.exec = Jvm.exec) (hb : c.code = cc) {off : Int} {tgt : Nat} (hdg : decode cc pc = .ok (.ifCond .ne off, 3)) (ht : (pc : Int) + off = (tgt : Int))
    (kt : X = true → W p l e R s m args below meth c H locs cells slots Q (F0 m tgt ls rest)) (kf : X = false → W p l e R s m args below meth c H locs cells slots Q (F0 m (pc + 3) ls rest)) : W p l e R s m args below meth c H locs cells slots Q (F0 m pc ls (.int (b2i X) :: rest)) :=
  lv_if_ne hexec hb hdg ht (fun h => kt (by cases X with
    | true => rfl
    | false => exact absurd rfl h)) (fun h => kf ((b2i_0 X).mp h))
theorem zc_ne {X Y : Bool} (hexec : p.tables.exec = Jvm.exec) (hb : c.code = cc) {off : Int} {tgt : Nat} (hdg : decode cc pc = .ok (.if_icmp .ne off, 3)) (ht : (pc : Int) + off = (tgt : Int))
    (kt : ¬ X = Y → W p l e R s m args below meth c H locs cells slots Q (F0 m tgt ls rest)) (kf : X = Y → W p l e R s m args below meth c H locs cells slots Q (F0 m (pc + 3) ls rest)) : W p l e R s m args below meth c H locs cells slots Q (F0 m pc ls (.int (b2i Y) :: .int (b2i X) :: rest)) :=
  lv_icmp_ne hexec hb hdg ht (fun h => kt (fun z => h ((b2i_e X Y).mpr z))) (fun h => kf ((b2i_e X Y).mp h))
/-- switches by their keys -/
theorem t_in (key : Int32) {off : Int} {tgt : Nat} (hexec : p.tables.exec = Jvm.exec) (hb : c.code = cc) {dflt lo hi : Int} {offs : Array Int} {len : Nat} {x : Int32} (hdg : decode cc pc = .ok (.tableswitch dflt lo hi offs, len)) (hx : x = key) (h1 : ¬ key.toInt < lo) (h2 : ¬ hi < key.toInt) (ho : offs[(key.toInt - lo).toNat]? = some off) (ht : (pc : Int) + off = (tgt : Int))
    (k : W p l e R s m args below meth c H locs cells slots Q (F0 m tgt ls rest)) : W p l e R s m args below meth c H locs cells slots Q (F0 m pc ls (.int x :: rest)) := by
  subst hx
  exact lv_tableIn hexec hb hdg h1 h2 ho ht k
theorem t_no (ks : List Int) {tgt : Nat} (hexec : p.tables.exec = Jvm.exec) (hb : c.code = cc) {dflt lo hi : Int} {offs : Array Int} {len : Nat} {x : Int32} (hdg : decode cc pc = .ok (.tableswitch dflt lo hi offs, len)) (hx : ∀ k ∈ ks, ¬ x.toInt = k) (ha : (List.range (hi + 1 - lo).toNat).all (fun j => decide (offs[j]? = some dflt) || decide ((lo + (j : Int)) ∈ ks)) = true) (ht : (pc : Int) + dflt = (tgt : Int))
    (k : W p l e R s m args below meth c H locs cells slots Q (F0 m tgt ls rest)) : W p l e R s m args below meth c H locs cells slots Q (F0 m pc ls (.int x :: rest)) := by
  by_cases h1 : x.toInt < lo
  · exact lv_tableOut hexec hb hdg (Or.inl h1) ht k
  · by_cases h2 : hi < x.toInt
    · exact lv_tableOut hexec hb hdg (Or.inr h2) ht k
    · have h3 := List.all_eq_true.mp ha (x.toInt - lo).toNat (List.mem_range.mpr (by omega))
      have h4 : lo + (((x.toInt - lo).toNat : Nat) : Int) = x.toInt := by omega
      rw [h4] at h3
      simp only [Bool.or_eq_true, decide_eq_true_eq] at h3
      rcases h3 with h3 | h3
      · exact lv_tableIn hexec hb hdg h1 h2 h3 ht k
      · exact absurd rfl (hx _ h3)

theorem k_get (S : CallFix p m c cc nL s args TB own) (hK : va_K D cls tys s) (hP : va_P D cls (mW q xa ad sS sC fB gT cK) H) {i : Nat} (hi : i < 12) (k : Nat) (hk : k < 6) (hl : Cond.fieldLink own index R_K (F_K k).2.1 (F_K k).2.2.1 ∈ TB) {v : Value} (hv : (capL (cK i))[k]? = some v) (hdg : decode cc pc = .ok (.getfield index, 3))
    (kk : W p l e R s m args below meth c H locs cells slots Q (F0 m (pc + 3) ls (v :: rest))) : W p l e R s m args below meth c H locs cells slots Q (F0 m pc ls (.ref (ad i) :: rest)) :=
  va_get (D := D) (ci := 0) (C := R_K) (T := F_K) (N := 6) S.1 S.2.1 S.2.2.2.2 in_K S.2.2.2.1 hK hP (5 + i) (mW_get hi) rfl k hk (S.2.2.2.2 _ hl) (fun _ h => h) hv hdg kk
theorem k_put (S : CallFix p m c cc nL s args TB own) (hK : va_K D cls tys s) (hP : va_P D cls (mW q xa ad sS sC fB gT cK) H) (hD : va_D A (mW q xa ad sS sC fB gT cK)) (hS : va_S A H0 H locs) {i : Nat} (hi : i < 12) (k : Nat) (hk : k < 6) (hl : Cond.fieldLink own index R_K (F_K k).2.1 (F_K k).2.2.1 ∈ TB) {v : Value} (z : Cp) (hz : (capL (cK i)).set k v = capL z) (hn : narrow (t_K k) v = v) (hf : fits (t_K k) v = true) (hdg : decode cc pc = .ok (.putfield index, 3))
    (kk : ∀ (H1 : Heap) (locs1 : List Loc), va_P D cls (mW q xa ad sS sC fB gT (va_up cK i z)) H1 → va_S A H0 H1 locs1 → W p l e R s m args below meth c H1 locs1 cells slots Q (F0 m (pc + 3) ls rest)) : W p l e R s m args below meth c H locs cells slots Q (F0 m pc ls (v :: .ref (ad i) :: rest)) := by
  refine va_put (D := D) (ci := 0) (C := R_K) (T := F_K) (N := 6) (ty := t_K k) S.1 S.2.1 S.2.2.2.2 in_K t_K t_K_ok n_K S.2.2.2.1 hK hP hD hS (5 + i) (mW_get hi) rfl k hk (S.2.2.2.2 _ hl) (fun _ h => h) rfl (t_K_ok k hk) hn hf hk hdg (fun H1 locs1 hP1 _ hS1 => ?_)
  rw [hz, mW_set z hi] at hP1
  exact kk H1 locs1 hP1 hS1
theorem k_getN (S : CallFix p m c cc nL s args TB own) (hK : va_K D cls tys s) (hP : va_P D cls (mW q xa ad sS sC fB gT cK) H) {i : Nat} (hi : i < 12) (k : Nat) (hk : k < 6) (hN : NL s) (hl : Cond.fieldLinkNest own index R_K (F_K k).2.1 (F_K k).2.2.1 R_M ∈ NW) {v : Value} (hv : (capL (cK i))[k]? = some v) (hdg : decode cc pc = .ok (.getfield index, 3))
    (kk : W p l e R s m args below meth c H locs cells slots Q (F0 m (pc + 3) ls (v :: rest))) : W p l e R s m args below meth c H locs cells slots Q (F0 m pc ls (.ref (ad i) :: rest)) :=
  va_getN (D := D) (ci := 0) (C := R_K) (T := F_K) (N := 6) S.1 S.2.1 S.2.2.2.2 in_K S.2.2.2.1 hK hP (5 + i) (mW_get hi) rfl k hk (va_Nw.use rfl (hN _ hl)) (fun _ h => h) hv hdg kk
theorem k_putN (S : CallFix p m c cc nL s args TB own) (hK : va_K D cls tys s) (hP : va_P D cls (mW q xa ad sS sC fB gT cK) H) (hD : va_D A (mW q xa ad sS sC fB gT cK)) (hS : va_S A H0 H locs) {i : Nat} (hi : i < 12) (k : Nat) (hk : k < 6) (hN : NL s) (hl : Cond.fieldLinkNest own index R_K (F_K k).2.1 (F_K k).2.2.1 R_M ∈ NW) {v : Value} (z : Cp) (hz : (capL (cK i)).set k v = capL z) (hn : narrow (t_K k) v = v) (hf : fits (t_K k) v = true) (hdg : decode cc pc = .ok (.putfield index, 3))
    (kk : ∀ (H1 : Heap) (locs1 : List Loc), va_P D cls (mW q xa ad sS sC fB gT (va_up cK i z)) H1 → va_S A H0 H1 locs1 → W p l e R s m args below meth c H1 locs1 cells slots Q (F0 m (pc + 3) ls rest)) : W p l e R s m args below meth c H locs cells slots Q (F0 m pc ls (v :: .ref (ad i) :: rest)) := by
  refine va_putN (D := D) (ci := 0) (C := R_K) (T := F_K) (N := 6) (ty := t_K k) S.1 S.2.1 S.2.2.2.2 in_K t_K t_K_ok n_K S.2.2.2.1 hK hP hD hS (5 + i) (mW_get hi) rfl k hk (va_Nw.use rfl (hN _ hl)) (fun _ h => h) rfl (t_K_ok k hk) hn hf hk hdg (fun H1 locs1 hP1 _ hS1 => ?_)
  rw [hz, mW_set z hi] at hP1
  exact kk H1 locs1 hP1 hS1
theorem k_getO (S : CallFix p m c cc nL s args TB own) (hK : va_K D cls tys s) {i : Nat} {z : Cp} (hP : va_P D cls (mW q xa ad sS sC fB gT (va_up cK i z)) H) (hi : i < 12) (k : Nat) (hk : k < 6) (hl : Cond.fieldLink own index R_K (F_K k).2.1 (F_K k).2.2.1 ∈ TB) {v : Value} (hv : (capL z)[k]? = some v) (hdg : decode cc pc = .ok (.getfield index, 3))
    (kk : W p l e R s m args below meth c H locs cells slots Q (F0 m (pc + 3) ls (v :: rest))) : W p l e R s m args below meth c H locs cells slots Q (F0 m pc ls (.ref (ad i) :: rest)) :=
  k_get S hK hP hi k hk hl (by rw [va_up_self]; exact hv) hdg kk
theorem k_getX (S : CallFix p m c cc nL s args TB own) (hK : va_K D cls tys s) {i j : Nat} {z : Cp} (hP : va_P D cls (mW q xa ad sS sC fB gT (va_up cK i z)) H) (hj : j < 12) (k : Nat) (hk : k < 6) (hl : Cond.fieldLink own index R_K (F_K k).2.1 (F_K k).2.2.1 ∈ TB) {v : Value} (hv : (capL (cK j))[k]? = some v) (hz : (capL z)[k]? = (capL (cK i))[k]?) (hdg : decode cc pc = .ok (.getfield index, 3))
    (kk : W p l e R s m args below meth c H locs cells slots Q (F0 m (pc + 3) ls (v :: rest))) : W p l e R s m args below meth c H locs cells slots Q (F0 m pc ls (.ref (ad j) :: rest)) :=
  k_get S hK hP hj k hk hl (by
    by_cases h : j = i
    · subst h
      rw [va_up_self, hz]
      exact hv
    · rw [va_up_ne _ _ h]
      exact hv) hdg kk
theorem k_putO (S : CallFix p m c cc nL s args TB own) (hK : va_K D cls tys s) {i : Nat} {z : Cp} (hP : va_P D cls (mW q xa ad sS sC fB gT (va_up cK i z)) H) (hD : va_D A (mW q xa ad sS sC fB gT (va_up cK i z))) (hS : va_S A H0 H locs) (hi : i < 12) (k : Nat) (hk : k < 6) (hl : Cond.fieldLink own index R_K (F_K k).2.1 (F_K k).2.2.1 ∈ TB) {v : Value} (y : Cp) (hz : (capL z).set k v = capL y) (hn : narrow (t_K k) v = v) (hf : fits (t_K k) v = true) (hdg : decode cc pc = .ok (.putfield index, 3))
    (kk : ∀ (H1 : Heap) (locs1 : List Loc), va_P D cls (mW q xa ad sS sC fB gT (va_up cK i y)) H1 → va_S A H0 H1 locs1 → W p l e R s m args below meth c H1 locs1 cells slots Q (F0 m (pc + 3) ls rest)) : W p l e R s m args below meth c H locs cells slots Q (F0 m pc ls (v :: .ref (ad i) :: rest)) :=
  k_put S hK hP hD hS hi k hk hl y (by rw [va_up_self]; exact hz) hn hf hdg (fun H1 locs1 hP1 hS1 => kk H1 locs1 (by rw [bx_uu] at hP1; exact hP1) hS1)
theorem k_getON (S : CallFix p m c cc nL s args TB own) (hK : va_K D cls tys s) {i : Nat} {z : Cp} (hP : va_P D cls (mW q xa ad sS sC fB gT (va_up cK i z)) H) (hi : i < 12) (k : Nat) (hk : k < 6) (hN : NL s) (hl : Cond.fieldLinkNest own index R_K (F_K k).2.1 (F_K k).2.2.1 R_M ∈ NW) {v : Value} (hv : (capL z)[k]? = some v) (hdg : decode cc pc = .ok (.getfield index, 3))
    (kk : W p l e R s m args below meth c H locs cells slots Q (F0 m (pc + 3) ls (v :: rest))) : W p l e R s m args below meth c H locs cells slots Q (F0 m pc ls (.ref (ad i) :: rest)) :=
  k_getN S hK hP hi k hk hN hl (by rw [va_up_self]; exact hv) hdg kk
theorem k_getXN (S : CallFix p m c cc nL s args TB own) (hK : va_K D cls tys s) {i j : Nat} {z : Cp} (hP : va_P D cls (mW q xa ad sS sC fB gT (va_up cK i z)) H) (hj : j < 12) (k : Nat) (hk : k < 6) (hN : NL s) (hl : Cond.fieldLinkNest own index R_K (F_K k).2.1 (F_K k).2.2.1 R_M ∈ NW) {v : Value} (hv : (capL (cK j))[k]? = some v) (hz : (capL z)[k]? = (capL (cK i))[k]?) (hdg : decode cc pc = .ok (.getfield index, 3))
    (kk : W p l e R s m args below meth c H locs cells slots Q (F0 m (pc + 3) ls (v :: rest))) : W p l e R s m args below meth c H locs cells slots Q (F0 m pc ls (.ref (ad j) :: rest)) :=
  k_getN S hK hP hj k hk hN hl (by
    by_cases h : j = i
    · subst h
      rw [va_up_self, hz]
      exact hv
    · rw [va_up_ne _ _ h]
      exact hv) hdg kk
theorem k_putON (S : CallFix p m c cc nL s args TB own) (hK : va_K D cls tys s) {i : Nat} {z : Cp} (hP : va_P D cls (mW q xa ad sS sC fB gT (va_up cK i z)) H) (hD : va_D A (mW q xa ad sS sC fB gT (va_up cK i z))) (hS : va_S A H0 H locs) (hi : i < 12) (k : Nat) (hk : k < 6) (hN : NL s) (hl : Cond.fieldLinkNest own index R_K (F_K k).2.1 (F_K k).2.2.1 R_M ∈ NW) {v : Value} (y : Cp) (hz : (capL z).set k v = capL y) (hn : narrow (t_K k) v = v) (hf : fits (t_K k) v = true) (hdg : decode cc pc = .ok (.putfield index, 3))
    (kk : ∀ (H1 : Heap) (locs1 : List Loc), va_P D cls (mW q xa ad sS sC fB gT (va_up cK i y)) H1 → va_S A H0 H1 locs1 → W p l e R s m args below meth c H1 locs1 cells slots Q (F0 m (pc + 3) ls rest)) : W p l e R s m args below meth c H locs cells slots Q (F0 m pc ls (v :: .ref (ad i) :: rest)) :=
  k_putN S hK hP hD hS hi k hk hN hl y (by rw [va_up_self]; exact hz) hn hf hdg (fun H1 locs1 hP1 hS1 => kk H1 locs1 (by rw [bx_uu] at hP1; exact hP1) hS1)
theorem m_get (S : CallFix p m c cc nL s args TB own) (hK : va_K D cls tys s) (hP : va_P D cls (mW q xa ad sS sC fB gT cK) H) (k : Nat) (hk : k < 8) (hl : Cond.fieldLink own index R_M (F_M k).2.1 (F_M k).2.2.1 ∈ TB) {v : Value} (hv : (mF xa ad sS sC)[k]? = some v) (hdg : decode cc pc = .ok (.getfield index, 3))
    (kk : W p l e R s m args below meth c H locs cells slots Q (F0 m (pc + 3) ls (v :: rest))) : W p l e R s m args below meth c H locs cells slots Q (F0 m pc ls (.ref (xa 0) :: rest)) :=
  va_get (D := D) (ci := 2) (C := R_M) (T := F_M) (N := 8) S.1 S.2.1 S.2.2.2.2 in_M S.2.2.2.1 hK hP 0 rfl rfl k hk (S.2.2.2.2 _ hl) (fun _ h => h) hv hdg kk
theorem m_putS (S : CallFix p m c cc nL s args TB own) (hK : va_K D cls tys s) (hP : va_P D cls (mW q xa ad sS sC fB gT cK) H) (hD : va_D A (mW q xa ad sS sC fB gT cK)) (hS : va_S A H0 H locs) {x : Int32} (hl : Cond.fieldLink own index R_M (F_M 6).2.1 (F_M 6).2.2.1 ∈ TB) (hdg : decode cc pc = .ok (.putfield index, 3))
    (kk : ∀ (H1 : Heap) (locs1 : List Loc), va_P D cls (mW q xa ad x sC fB gT cK) H1 → va_S A H0 H1 locs1 → W p l e R s m args below meth c H1 locs1 cells slots Q (F0 m (pc + 3) ls rest)) : W p l e R s m args below meth c H locs cells slots Q (F0 m pc ls (.int x :: .ref (xa 0) :: rest)) :=
  va_put (D := D) (ci := 2) (C := R_M) (T := F_M) (N := 8) (ty := .int) S.1 S.2.1 S.2.2.2.2 in_M t_M t_M_ok n_M S.2.2.2.1 hK hP hD hS 0 rfl rfl 6 (by decide) (S.2.2.2.2 _ hl) (fun _ h => h) rfl (t_M_ok 6 (by decide)) rfl rfl (Nat.le_of_ble_eq_true rfl) hdg (fun H1 locs1 hP1 _ hS1 => kk H1 locs1 hP1 hS1)
theorem m_putC (S : CallFix p m c cc nL s args TB own) (hK : va_K D cls tys s) (hP : va_P D cls (mW q xa ad sS sC fB gT cK) H) (hD : va_D A (mW q xa ad sS sC fB gT cK)) (hS : va_S A H0 H locs) {x : Int32} (hl : Cond.fieldLink own index R_M (F_M 7).2.1 (F_M 7).2.2.1 ∈ TB) (hdg : decode cc pc = .ok (.putfield index, 3))
    (kk : ∀ (H1 : Heap) (locs1 : List Loc), va_P D cls (mW q xa ad sS x fB gT cK) H1 → va_S A H0 H1 locs1 → W p l e R s m args below meth c H1 locs1 cells slots Q (F0 m (pc + 3) ls rest)) : W p l e R s m args below meth c H locs cells slots Q (F0 m pc ls (.int x :: .ref (xa 0) :: rest)) :=
  va_put (D := D) (ci := 2) (C := R_M) (T := F_M) (N := 8) (ty := .int) S.1 S.2.1 S.2.2.2.2 in_M t_M t_M_ok n_M S.2.2.2.1 hK hP hD hS 0 rfl rfl 7 (by decide) (S.2.2.2.2 _ hl) (fun _ h => h) rfl (t_M_ok 7 (by decide)) rfl rfl (Nat.le_of_ble_eq_true rfl) hdg (fun H1 locs1 hP1 _ hS1 => kk H1 locs1 hP1 hS1)
theorem e_get (S : CallFix p m c cc nL s args TB own) (hK : va_K D cls tys s) (hP : va_P D cls (mW q xa ad sS sC fB gT cK) H) (k : Nat) (hk : k < 2) (hl : Cond.fieldLink own index R_E (F_E k).2.1 (F_E k).2.2.1 ∈ TB) {v : Value} (hv : ([.ref (xa 3), .ref (xa 4)] : List Value)[k]? = some v) (hdg : decode cc pc = .ok (.getfield index, 3))
    (kk : W p l e R s m args below meth c H locs cells slots Q (F0 m (pc + 3) ls (v :: rest))) : W p l e R s m args below meth c H locs cells slots Q (F0 m pc ls (.ref (xa 2) :: rest)) :=
  va_get (D := D) (ci := 1) (C := R_E) (T := F_E) (N := 2) S.1 S.2.1 S.2.2.2.2 in_E S.2.2.2.1 hK hP 2 rfl rfl k hk (S.2.2.2.2 _ hl) (fun _ h => h) hv hdg kk
theorem e_getN (S : CallFix p m c cc nL s args TB own) (hK : va_K D cls tys s) (hP : va_P D cls (mW q xa ad sS sC fB gT cK) H) (k : Nat) (hk : k < 2) (hN : NL s) (hl : Cond.fieldLinkNest own index R_E (F_E k).2.1 (F_E k).2.2.1 R_M ∈ NW) {v : Value} (hv : ([.ref (xa 3), .ref (xa 4)] : List Value)[k]? = some v) (hdg : decode cc pc = .ok (.getfield index, 3))
    (kk : W p l e R s m args below meth c H locs cells slots Q (F0 m (pc + 3) ls (v :: rest))) : W p l e R s m args below meth c H locs cells slots Q (F0 m pc ls (.ref (xa 2) :: rest)) :=
  va_getN (D := D) (ci := 1) (C := R_E) (T := F_E) (N := 2) S.1 S.2.1 S.2.2.2.2 in_E S.2.2.2.1 hK hP 2 rfl rfl k hk (va_Nw.use rfl (hN _ hl)) (fun _ h => h) hv hdg kk
theorem s_ald (S : CallFix p m c cc nL s args TB own) (hK : va_K D cls (tyM q) s) (hP : va_P D cls (mW q xa ad sS sC fB gT cK) H) {i : Int32} (hin : vp_in i 11) (hdg : decode cc pc = .ok (.aaload, 1))
    (kk : W p l e R s m args below meth c H locs cells slots Q (F0 m (pc + 1) ls (.ref (ad i.toNatClampNeg) :: rest))) : W p l e R s m args below meth c H locs cells slots Q (F0 m pc ls (.int i :: .ref (xa 1) :: rest)) :=
  va_aldq (D := D) (C := R_K) S.1 S.2.1 hK hP 1 0 rfl rfl hin hdg kk
theorem b_ald (S : CallFix p m c cc nL s args TB own) (hK : va_K D cls (tyM q) s) (hP : va_P D cls (mW q xa ad sS sC fB gT cK) H) {i : Int32} (hin : vp_in i 512) (hdg : decode cc pc = .ok (.baload, 1))
    (kk : W p l e R s m args below meth c H locs cells slots Q (F0 m (pc + 1) ls (.int (fB i.toNatClampNeg) :: rest))) : W p l e R s m args below meth c H locs cells slots Q (F0 m pc ls (.int i :: .ref (xa 3) :: rest)) :=
  va_bald (D := D) S.1 S.2.1 hK hP 3 1 rfl rfl hin hdg kk
theorem t_ald (S : CallFix p m c cc nL s args TB own) (hK : va_K D cls (tyM q) s) (hP : va_P D cls (mW q xa ad sS sC fB gT cK) H) {i : Int32} (hin : vp_in i 64) (hdg : decode cc pc = .ok (.baload, 1))
    (kk : W p l e R s m args below meth c H locs cells slots Q (F0 m (pc + 1) ls (.int (b2i (gT i.toNatClampNeg)) :: rest))) : W p l e R s m args below meth c H locs cells slots Q (F0 m pc ls (.int i :: .ref (xa 4) :: rest)) :=
  va_zald (D := D) S.1 S.2.1 hK hP 4 2 rfl rfl hin hdg kk
theorem b_ast (S : CallFix p m c cc nL s args TB own) (hK : va_K D cls (tyM q) s) (hP : va_P D cls (mW q xa ad sS sC fB gT cK) H) (hD : va_D A (mW q xa ad sS sC fB gT cK)) (hS : va_S A H0 H locs) {i x : Int32} (hin : vp_in i 512) (hdg : decode cc pc = .ok (.bastore, 1))
    (kk : ∀ (H1 : Heap) (locs1 : List Loc), va_P D cls (mW q xa ad sS sC (upd fB i.toNatClampNeg x.toInt8.toInt32) gT cK) H1 → va_S A H0 H1 locs1 → W p l e R s m args below meth c H1 locs1 cells slots Q (F0 m (pc + 1) ls rest)) : W p l e R s m args below meth c H locs cells slots Q (F0 m pc ls (.int x.toInt8.toInt32 :: .int i :: .ref (xa 3) :: rest)) := by
  refine va_bast (D := D) S.1 S.2.1 hK hP hD hS 3 1 rfl rfl hin hdg (fun H1 locs1 hP1 _ hS1 => ?_)
  rw [pk_vb] at hP1
  exact kk H1 locs1 hP1 hS1
theorem t_ast (S : CallFix p m c cc nL s args TB own) (hK : va_K D cls (tyM q) s) (hP : va_P D cls (mW q xa ad sS sC fB gT cK) H) (hD : va_D A (mW q xa ad sS sC fB gT cK)) (hS : va_S A H0 H locs) {i : Int32} {z : Bool} (hin : vp_in i 64) (hdg : decode cc pc = .ok (.bastore, 1))
    (kk : ∀ (H1 : Heap) (locs1 : List Loc), va_P D cls (mW q xa ad sS sC fB (va_up gT i.toNatClampNeg z) cK) H1 → va_S A H0 H1 locs1 → W p l e R s m args below meth c H1 locs1 cells slots Q (F0 m (pc + 1) ls rest)) : W p l e R s m args below meth c H locs cells slots Q (F0 m pc ls (.int (b2i z) :: .int i :: .ref (xa 4) :: rest)) := by
  refine va_zast (D := D) S.1 S.2.1 hK hP hD hS 4 2 rfl rfl hin hdg (fun H1 locs1 hP1 _ hS1 => ?_)
  rw [b2i_vp, ← up_T] at hP1
  exact kk H1 locs1 hP1 hS1
end OwnRows
section OwnRef
variable {p : Program} {l : Launch} {e : Env} {R : Room} {s : State} {m : MethodId} {args : Array Value} {below : List Frame} {meth : Method} {c : Code} {H : Heap} {locs : List Loc} {cells slots : Nat} {Q : State → Prop}
variable {cc : ByteArray} {pc : Nat} {ls : Array Slot} {rest : List Value} {D : va_G} {A : Nat → Prop} {H0 : Heap} {own : String} {nL index : Nat}
variable {q : Nat → ClassId} {xa : Nat → Nat} {th ca st co ra rb rc im hf : Int32} {rz : Bool} {fM : Nat → Int32} {gT : Nat → Bool} {cK : Nat → Cp}
theorem r_get (S : CallFix p m c cc nL s args TB own) (hK : va_K D cls (tyR q) s) (hP : va_P D cls (rW q xa th ca st co ra rb rc im hf rz fM gT cK) H) (k : Nat) (hk : k < 18) (hl : Cond.fieldLink own index R_R (F_R k).2.1 (F_R k).2.2.1 ∈ TB) {v : Value} (hv : (rF xa th ca st co ra rb rc im hf rz)[k]? = some v) (hdg : decode cc pc = .ok (.getfield index, 3))
    (kk : W p l e R s m args below meth c H locs cells slots Q (F0 m (pc + 3) ls (v :: rest))) : W p l e R s m args below meth c H locs cells slots Q (F0 m pc ls (.ref (xa 0) :: rest)) :=
  va_get (D := D) (ci := 3) (C := R_R) (T := F_R) (N := 18) S.1 S.2.1 S.2.2.2.2 in_R S.2.2.2.1 hK hP 0 rfl rfl k hk (S.2.2.2.2 _ hl) (fun _ h => h) hv hdg kk
theorem r_put_th (S : CallFix p m c cc nL s args TB own) (hK : va_K D cls (tyR q) s) (hP : va_P D cls (rW q xa th ca st co ra rb rc im hf rz fM gT cK) H) (hD : va_D A (rW q xa th ca st co ra rb rc im hf rz fM gT cK)) (hS : va_S A H0 H locs) {x : Int32} (hl : Cond.fieldLink own index R_R (F_R 0).2.1 (F_R 0).2.2.1 ∈ TB) (hdg : decode cc pc = .ok (.putfield index, 3))
    (kk : ∀ (H1 : Heap) (locs1 : List Loc), va_P D cls (rW q xa x ca st co ra rb rc im hf rz fM gT cK) H1 → va_S A H0 H1 locs1 → W p l e R s m args below meth c H1 locs1 cells slots Q (F0 m (pc + 3) ls rest)) : W p l e R s m args below meth c H locs cells slots Q (F0 m pc ls (.int x :: .ref (xa 0) :: rest)) :=
  va_put (D := D) (ci := 3) (C := R_R) (T := F_R) (N := 18) (ty := .int) S.1 S.2.1 S.2.2.2.2 in_R t_R t_R_ok n_R S.2.2.2.1 hK hP hD hS 0 rfl rfl 0 (by decide) (S.2.2.2.2 _ hl) (fun _ h => h) rfl (t_R_ok 0 (by decide)) rfl rfl (Nat.le_of_ble_eq_true rfl) hdg (fun H1 locs1 hP1 _ hS1 => kk H1 locs1 hP1 hS1)
theorem r_put_ca (S : CallFix p m c cc nL s args TB own) (hK : va_K D cls (tyR q) s) (hP : va_P D cls (rW q xa th ca st co ra rb rc im hf rz fM gT cK) H) (hD : va_D A (rW q xa th ca st co ra rb rc im hf rz fM gT cK)) (hS : va_S A H0 H locs) {x : Int32} (hl : Cond.fieldLink own index R_R (F_R 9).2.1 (F_R 9).2.2.1 ∈ TB) (hdg : decode cc pc = .ok (.putfield index, 3))
    (kk : ∀ (H1 : Heap) (locs1 : List Loc), va_P D cls (rW q xa th x st co ra rb rc im hf rz fM gT cK) H1 → va_S A H0 H1 locs1 → W p l e R s m args below meth c H1 locs1 cells slots Q (F0 m (pc + 3) ls rest)) : W p l e R s m args below meth c H locs cells slots Q (F0 m pc ls (.int x :: .ref (xa 0) :: rest)) :=
  va_put (D := D) (ci := 3) (C := R_R) (T := F_R) (N := 18) (ty := .int) S.1 S.2.1 S.2.2.2.2 in_R t_R t_R_ok n_R S.2.2.2.1 hK hP hD hS 0 rfl rfl 9 (by decide) (S.2.2.2.2 _ hl) (fun _ h => h) rfl (t_R_ok 9 (by decide)) rfl rfl (Nat.le_of_ble_eq_true rfl) hdg (fun H1 locs1 hP1 _ hS1 => kk H1 locs1 hP1 hS1)
theorem r_put_st (S : CallFix p m c cc nL s args TB own) (hK : va_K D cls (tyR q) s) (hP : va_P D cls (rW q xa th ca st co ra rb rc im hf rz fM gT cK) H) (hD : va_D A (rW q xa th ca st co ra rb rc im hf rz fM gT cK)) (hS : va_S A H0 H locs) {x : Int32} (hl : Cond.fieldLink own index R_R (F_R 10).2.1 (F_R 10).2.2.1 ∈ TB) (hdg : decode cc pc = .ok (.putfield index, 3))
    (kk : ∀ (H1 : Heap) (locs1 : List Loc), va_P D cls (rW q xa th ca x co ra rb rc im hf rz fM gT cK) H1 → va_S A H0 H1 locs1 → W p l e R s m args below meth c H1 locs1 cells slots Q (F0 m (pc + 3) ls rest)) : W p l e R s m args below meth c H locs cells slots Q (F0 m pc ls (.int x :: .ref (xa 0) :: rest)) :=
  va_put (D := D) (ci := 3) (C := R_R) (T := F_R) (N := 18) (ty := .int) S.1 S.2.1 S.2.2.2.2 in_R t_R t_R_ok n_R S.2.2.2.1 hK hP hD hS 0 rfl rfl 10 (by decide) (S.2.2.2.2 _ hl) (fun _ h => h) rfl (t_R_ok 10 (by decide)) rfl rfl (Nat.le_of_ble_eq_true rfl) hdg (fun H1 locs1 hP1 _ hS1 => kk H1 locs1 hP1 hS1)
theorem r_put_co (S : CallFix p m c cc nL s args TB own) (hK : va_K D cls (tyR q) s) (hP : va_P D cls (rW q xa th ca st co ra rb rc im hf rz fM gT cK) H) (hD : va_D A (rW q xa th ca st co ra rb rc im hf rz fM gT cK)) (hS : va_S A H0 H locs) {x : Int32} (hl : Cond.fieldLink own index R_R (F_R 11).2.1 (F_R 11).2.2.1 ∈ TB) (hdg : decode cc pc = .ok (.putfield index, 3))
    (kk : ∀ (H1 : Heap) (locs1 : List Loc), va_P D cls (rW q xa th ca st x ra rb rc im hf rz fM gT cK) H1 → va_S A H0 H1 locs1 → W p l e R s m args below meth c H1 locs1 cells slots Q (F0 m (pc + 3) ls rest)) : W p l e R s m args below meth c H locs cells slots Q (F0 m pc ls (.int x :: .ref (xa 0) :: rest)) :=
  va_put (D := D) (ci := 3) (C := R_R) (T := F_R) (N := 18) (ty := .int) S.1 S.2.1 S.2.2.2.2 in_R t_R t_R_ok n_R S.2.2.2.1 hK hP hD hS 0 rfl rfl 11 (by decide) (S.2.2.2.2 _ hl) (fun _ h => h) rfl (t_R_ok 11 (by decide)) rfl rfl (Nat.le_of_ble_eq_true rfl) hdg (fun H1 locs1 hP1 _ hS1 => kk H1 locs1 hP1 hS1)
theorem r_put_ra (S : CallFix p m c cc nL s args TB own) (hK : va_K D cls (tyR q) s) (hP : va_P D cls (rW q xa th ca st co ra rb rc im hf rz fM gT cK) H) (hD : va_D A (rW q xa th ca st co ra rb rc im hf rz fM gT cK)) (hS : va_S A H0 H locs) {x : Int32} (hl : Cond.fieldLink own index R_R (F_R 12).2.1 (F_R 12).2.2.1 ∈ TB) (hdg : decode cc pc = .ok (.putfield index, 3))
    (kk : ∀ (H1 : Heap) (locs1 : List Loc), va_P D cls (rW q xa th ca st co x rb rc im hf rz fM gT cK) H1 → va_S A H0 H1 locs1 → W p l e R s m args below meth c H1 locs1 cells slots Q (F0 m (pc + 3) ls rest)) : W p l e R s m args below meth c H locs cells slots Q (F0 m pc ls (.int x :: .ref (xa 0) :: rest)) :=
  va_put (D := D) (ci := 3) (C := R_R) (T := F_R) (N := 18) (ty := .int) S.1 S.2.1 S.2.2.2.2 in_R t_R t_R_ok n_R S.2.2.2.1 hK hP hD hS 0 rfl rfl 12 (by decide) (S.2.2.2.2 _ hl) (fun _ h => h) rfl (t_R_ok 12 (by decide)) rfl rfl (Nat.le_of_ble_eq_true rfl) hdg (fun H1 locs1 hP1 _ hS1 => kk H1 locs1 hP1 hS1)
theorem r_put_rb (S : CallFix p m c cc nL s args TB own) (hK : va_K D cls (tyR q) s) (hP : va_P D cls (rW q xa th ca st co ra rb rc im hf rz fM gT cK) H) (hD : va_D A (rW q xa th ca st co ra rb rc im hf rz fM gT cK)) (hS : va_S A H0 H locs) {x : Int32} (hl : Cond.fieldLink own index R_R (F_R 13).2.1 (F_R 13).2.2.1 ∈ TB) (hdg : decode cc pc = .ok (.putfield index, 3))
    (kk : ∀ (H1 : Heap) (locs1 : List Loc), va_P D cls (rW q xa th ca st co ra x rc im hf rz fM gT cK) H1 → va_S A H0 H1 locs1 → W p l e R s m args below meth c H1 locs1 cells slots Q (F0 m (pc + 3) ls rest)) : W p l e R s m args below meth c H locs cells slots Q (F0 m pc ls (.int x :: .ref (xa 0) :: rest)) :=
  va_put (D := D) (ci := 3) (C := R_R) (T := F_R) (N := 18) (ty := .int) S.1 S.2.1 S.2.2.2.2 in_R t_R t_R_ok n_R S.2.2.2.1 hK hP hD hS 0 rfl rfl 13 (by decide) (S.2.2.2.2 _ hl) (fun _ h => h) rfl (t_R_ok 13 (by decide)) rfl rfl (Nat.le_of_ble_eq_true rfl) hdg (fun H1 locs1 hP1 _ hS1 => kk H1 locs1 hP1 hS1)
theorem r_put_rc (S : CallFix p m c cc nL s args TB own) (hK : va_K D cls (tyR q) s) (hP : va_P D cls (rW q xa th ca st co ra rb rc im hf rz fM gT cK) H) (hD : va_D A (rW q xa th ca st co ra rb rc im hf rz fM gT cK)) (hS : va_S A H0 H locs) {x : Int32} (hl : Cond.fieldLink own index R_R (F_R 14).2.1 (F_R 14).2.2.1 ∈ TB) (hdg : decode cc pc = .ok (.putfield index, 3))
    (kk : ∀ (H1 : Heap) (locs1 : List Loc), va_P D cls (rW q xa th ca st co ra rb x im hf rz fM gT cK) H1 → va_S A H0 H1 locs1 → W p l e R s m args below meth c H1 locs1 cells slots Q (F0 m (pc + 3) ls rest)) : W p l e R s m args below meth c H locs cells slots Q (F0 m pc ls (.int x :: .ref (xa 0) :: rest)) :=
  va_put (D := D) (ci := 3) (C := R_R) (T := F_R) (N := 18) (ty := .int) S.1 S.2.1 S.2.2.2.2 in_R t_R t_R_ok n_R S.2.2.2.1 hK hP hD hS 0 rfl rfl 14 (by decide) (S.2.2.2.2 _ hl) (fun _ h => h) rfl (t_R_ok 14 (by decide)) rfl rfl (Nat.le_of_ble_eq_true rfl) hdg (fun H1 locs1 hP1 _ hS1 => kk H1 locs1 hP1 hS1)
theorem r_put_im (S : CallFix p m c cc nL s args TB own) (hK : va_K D cls (tyR q) s) (hP : va_P D cls (rW q xa th ca st co ra rb rc im hf rz fM gT cK) H) (hD : va_D A (rW q xa th ca st co ra rb rc im hf rz fM gT cK)) (hS : va_S A H0 H locs) {x : Int32} (hl : Cond.fieldLink own index R_R (F_R 15).2.1 (F_R 15).2.2.1 ∈ TB) (hdg : decode cc pc = .ok (.putfield index, 3))
    (kk : ∀ (H1 : Heap) (locs1 : List Loc), va_P D cls (rW q xa th ca st co ra rb rc x hf rz fM gT cK) H1 → va_S A H0 H1 locs1 → W p l e R s m args below meth c H1 locs1 cells slots Q (F0 m (pc + 3) ls rest)) : W p l e R s m args below meth c H locs cells slots Q (F0 m pc ls (.int x :: .ref (xa 0) :: rest)) :=
  va_put (D := D) (ci := 3) (C := R_R) (T := F_R) (N := 18) (ty := .int) S.1 S.2.1 S.2.2.2.2 in_R t_R t_R_ok n_R S.2.2.2.1 hK hP hD hS 0 rfl rfl 15 (by decide) (S.2.2.2.2 _ hl) (fun _ h => h) rfl (t_R_ok 15 (by decide)) rfl rfl (Nat.le_of_ble_eq_true rfl) hdg (fun H1 locs1 hP1 _ hS1 => kk H1 locs1 hP1 hS1)
theorem r_put_hf (S : CallFix p m c cc nL s args TB own) (hK : va_K D cls (tyR q) s) (hP : va_P D cls (rW q xa th ca st co ra rb rc im hf rz fM gT cK) H) (hD : va_D A (rW q xa th ca st co ra rb rc im hf rz fM gT cK)) (hS : va_S A H0 H locs) {x : Int32} (hl : Cond.fieldLink own index R_R (F_R 16).2.1 (F_R 16).2.2.1 ∈ TB) (hdg : decode cc pc = .ok (.putfield index, 3))
    (kk : ∀ (H1 : Heap) (locs1 : List Loc), va_P D cls (rW q xa th ca st co ra rb rc im x rz fM gT cK) H1 → va_S A H0 H1 locs1 → W p l e R s m args below meth c H1 locs1 cells slots Q (F0 m (pc + 3) ls rest)) : W p l e R s m args below meth c H locs cells slots Q (F0 m pc ls (.int x :: .ref (xa 0) :: rest)) :=
  va_put (D := D) (ci := 3) (C := R_R) (T := F_R) (N := 18) (ty := .int) S.1 S.2.1 S.2.2.2.2 in_R t_R t_R_ok n_R S.2.2.2.1 hK hP hD hS 0 rfl rfl 16 (by decide) (S.2.2.2.2 _ hl) (fun _ h => h) rfl (t_R_ok 16 (by decide)) rfl rfl (Nat.le_of_ble_eq_true rfl) hdg (fun H1 locs1 hP1 _ hS1 => kk H1 locs1 hP1 hS1)
theorem r_put_rz (S : CallFix p m c cc nL s args TB own) (hK : va_K D cls (tyR q) s) (hP : va_P D cls (rW q xa th ca st co ra rb rc im hf rz fM gT cK) H) (hD : va_D A (rW q xa th ca st co ra rb rc im hf rz fM gT cK)) (hS : va_S A H0 H locs) {z : Bool} (hl : Cond.fieldLink own index R_R (F_R 17).2.1 (F_R 17).2.2.1 ∈ TB) (hdg : decode cc pc = .ok (.putfield index, 3))
    (kk : ∀ (H1 : Heap) (locs1 : List Loc), va_P D cls (rW q xa th ca st co ra rb rc im hf z fM gT cK) H1 → va_S A H0 H1 locs1 → W p l e R s m args below meth c H1 locs1 cells slots Q (F0 m (pc + 3) ls rest)) : W p l e R s m args below meth c H locs cells slots Q (F0 m pc ls (.int (b2i z) :: .ref (xa 0) :: rest)) :=
  va_put (D := D) (ci := 3) (C := R_R) (T := F_R) (N := 18) (ty := .boolean) S.1 S.2.1 S.2.2.2.2 in_R t_R t_R_ok n_R S.2.2.2.1 hK hP hD hS 0 rfl rfl 17 (by decide) (S.2.2.2.2 _ hl) (fun _ h => h) rfl (t_R_ok 17 (by decide)) (b2i_nar z) (b2i_fit z) (Nat.le_of_ble_eq_true rfl) hdg (fun H1 locs1 hP1 _ hS1 => kk H1 locs1 hP1 hS1)
theorem r_ald_mem (S : CallFix p m c cc nL s args TB own) (hK : va_K D cls (tyR q) s) (hP : va_P D cls (rW q xa th ca st co ra rb rc im hf rz fM gT cK) H) {i : Int32} (hin : vp_in i 512) (hdg : decode cc pc = .ok (.iaload, 1))
    (kk : W p l e R s m args below meth c H locs cells slots Q (F0 m (pc + 1) ls (.int (fM i.toNatClampNeg) :: rest))) : W p l e R s m args below meth c H locs cells slots Q (F0 m pc ls (.int i :: .ref (xa 1) :: rest)) :=
  va_iald (D := D) S.1 S.2.1 hK hP 1 0 rfl rfl hin hdg kk
theorem r_ast_mem (S : CallFix p m c cc nL s args TB own) (hK : va_K D cls (tyR q) s) (hP : va_P D cls (rW q xa th ca st co ra rb rc im hf rz fM gT cK) H) (hD : va_D A (rW q xa th ca st co ra rb rc im hf rz fM gT cK)) (hS : va_S A H0 H locs) {i x : Int32} (hin : vp_in i 512) (hdg : decode cc pc = .ok (.iastore, 1))
    (kk : ∀ (H1 : Heap) (locs1 : List Loc), va_P D cls (rW q xa th ca st co ra rb rc im hf rz (upd fM i.toNatClampNeg x) gT cK) H1 → va_S A H0 H1 locs1 → W p l e R s m args below meth c H1 locs1 cells slots Q (F0 m (pc + 1) ls rest)) : W p l e R s m args below meth c H locs cells slots Q (F0 m pc ls (.int x :: .int i :: .ref (xa 1) :: rest)) :=
  va_iast (D := D) S.1 S.2.1 hK hP hD hS 1 0 rfl rfl hin hdg (fun H1 locs1 hP1 _ hS1 => kk H1 locs1 hP1 hS1)
theorem r_ald_tag (S : CallFix p m c cc nL s args TB own) (hK : va_K D cls (tyR q) s) (hP : va_P D cls (rW q xa th ca st co ra rb rc im hf rz fM gT cK) H) {i : Int32} (hin : vp_in i 64) (hdg : decode cc pc = .ok (.baload, 1))
    (kk : W p l e R s m args below meth c H locs cells slots Q (F0 m (pc + 1) ls (.int (b2i (gT i.toNatClampNeg)) :: rest))) : W p l e R s m args below meth c H locs cells slots Q (F0 m pc ls (.int i :: .ref (xa 2) :: rest)) :=
  va_zald (D := D) S.1 S.2.1 hK hP 2 1 rfl rfl hin hdg kk
theorem r_ast_tag (S : CallFix p m c cc nL s args TB own) (hK : va_K D cls (tyR q) s) (hP : va_P D cls (rW q xa th ca st co ra rb rc im hf rz fM gT cK) H) (hD : va_D A (rW q xa th ca st co ra rb rc im hf rz fM gT cK)) (hS : va_S A H0 H locs) {i : Int32} {z : Bool} (hin : vp_in i 64) (hdg : decode cc pc = .ok (.bastore, 1))
    (kk : ∀ (H1 : Heap) (locs1 : List Loc), va_P D cls (rW q xa th ca st co ra rb rc im hf rz fM (va_up gT i.toNatClampNeg z) cK) H1 → va_S A H0 H1 locs1 → W p l e R s m args below meth c H1 locs1 cells slots Q (F0 m (pc + 1) ls rest)) : W p l e R s m args below meth c H locs cells slots Q (F0 m pc ls (.int (b2i z) :: .int i :: .ref (xa 2) :: rest)) := by
  refine va_zast (D := D) S.1 S.2.1 hK hP hD hS 2 1 rfl rfl hin hdg (fun H1 locs1 hP1 _ hS1 => ?_)
  rw [b2i_vp, ← up_T] at hP1
  exact kk H1 locs1 hP1 hS1
theorem r_ald_v (S : CallFix p m c cc nL s args TB own) (hK : va_K D cls (tyR q) s) (hP : va_P D cls (rW q xa th ca st co ra rb rc im hf rz fM gT cK) H) {i : Int32} (hin : vp_in i 12) (hdg : decode cc pc = .ok (.baload, 1))
    (kk : W p l e R s m args below meth c H locs cells slots Q (F0 m (pc + 1) ls (.int (b2i (k_v (cK i.toNatClampNeg))) :: rest))) : W p l e R s m args below meth c H locs cells slots Q (F0 m pc ls (.int i :: .ref (xa 3) :: rest)) :=
  va_zald (D := D) S.1 S.2.1 hK hP 3 2 rfl rfl hin hdg kk
theorem r_ast_v (S : CallFix p m c cc nL s args TB own) (hK : va_K D cls (tyR q) s) (hP : va_P D cls (rW q xa th ca st co ra rb rc im hf rz fM gT cK) H) (hD : va_D A (rW q xa th ca st co ra rb rc im hf rz fM gT cK)) (hS : va_S A H0 H locs) {i : Int32} {z : Bool} (hin : vp_in i 12) (hdg : decode cc pc = .ok (.bastore, 1))
    (kk : ∀ (H1 : Heap) (locs1 : List Loc), va_P D cls (rW q xa th ca st co ra rb rc im hf rz fM gT (va_up cK i.toNatClampNeg (s_v (cK i.toNatClampNeg) z))) H1 → va_S A H0 H1 locs1 → W p l e R s m args below meth c H1 locs1 cells slots Q (F0 m (pc + 1) ls rest)) : W p l e R s m args below meth c H locs cells slots Q (F0 m pc ls (.int (b2i z) :: .int i :: .ref (xa 3) :: rest)) := by
  have e_v : (fun j => b2i (k_v (va_up cK i.toNatClampNeg (s_v (cK i.toNatClampNeg) z) j))) = upd (fun j => b2i (k_v (cK j))) i.toNatClampNeg (b2i z) := by
    funext j
    by_cases h : j = i.toNatClampNeg
    · rw [h]; simp [va_up, upd, k_v, s_v]
    · simp [va_up, upd, h]
  have e_b : (fun j => k_b (va_up cK i.toNatClampNeg (s_v (cK i.toNatClampNeg) z) j)) = fun j => k_b (cK j) := by
    funext j
    by_cases h : j = i.toNatClampNeg
    · rw [h]; simp [va_up, k_b, s_v]
    · simp [va_up, h]
  have e_t : (fun j => k_t (va_up cK i.toNatClampNeg (s_v (cK i.toNatClampNeg) z) j)) = fun j => k_t (cK j) := by
    funext j
    by_cases h : j = i.toNatClampNeg
    · rw [h]; simp [va_up, k_t, s_v]
    · simp [va_up, h]
  have e_a : (fun j => k_a (va_up cK i.toNatClampNeg (s_v (cK i.toNatClampNeg) z) j)) = fun j => k_a (cK j) := by
    funext j
    by_cases h : j = i.toNatClampNeg
    · rw [h]; simp [va_up, k_a, s_v]
    · simp [va_up, h]
  have e_p : (fun j => k_p (va_up cK i.toNatClampNeg (s_v (cK i.toNatClampNeg) z) j)) = fun j => k_p (cK j) := by
    funext j
    by_cases h : j = i.toNatClampNeg
    · rw [h]; simp [va_up, k_p, s_v]
    · simp [va_up, h]
  have e_y : (fun j => k_y (va_up cK i.toNatClampNeg (s_v (cK i.toNatClampNeg) z) j)) = fun j => k_y (cK j) := by
    funext j
    by_cases h : j = i.toNatClampNeg
    · rw [h]; simp [va_up, k_y, s_v]
    · simp [va_up, h]
  refine va_zast (D := D) S.1 S.2.1 hK hP hD hS 3 2 rfl rfl hin hdg (fun H1 locs1 hP1 _ hS1 => kk H1 locs1 ?_ hS1)
  rw [b2i_vp] at hP1
  unfold rW
  rw [e_v, e_b, e_t, e_a, e_p, e_y]
  exact hP1
theorem r_ald_b (S : CallFix p m c cc nL s args TB own) (hK : va_K D cls (tyR q) s) (hP : va_P D cls (rW q xa th ca st co ra rb rc im hf rz fM gT cK) H) {i : Int32} (hin : vp_in i 12) (hdg : decode cc pc = .ok (.iaload, 1))
    (kk : W p l e R s m args below meth c H locs cells slots Q (F0 m (pc + 1) ls (.int (k_b (cK i.toNatClampNeg)) :: rest))) : W p l e R s m args below meth c H locs cells slots Q (F0 m pc ls (.int i :: .ref (xa 4) :: rest)) :=
  va_iald (D := D) S.1 S.2.1 hK hP 4 3 rfl rfl hin hdg kk
theorem r_ast_b (S : CallFix p m c cc nL s args TB own) (hK : va_K D cls (tyR q) s) (hP : va_P D cls (rW q xa th ca st co ra rb rc im hf rz fM gT cK) H) (hD : va_D A (rW q xa th ca st co ra rb rc im hf rz fM gT cK)) (hS : va_S A H0 H locs) {i x : Int32} (hin : vp_in i 12) (hdg : decode cc pc = .ok (.iastore, 1))
    (kk : ∀ (H1 : Heap) (locs1 : List Loc), va_P D cls (rW q xa th ca st co ra rb rc im hf rz fM gT (va_up cK i.toNatClampNeg (s_b (cK i.toNatClampNeg) x))) H1 → va_S A H0 H1 locs1 → W p l e R s m args below meth c H1 locs1 cells slots Q (F0 m (pc + 1) ls rest)) : W p l e R s m args below meth c H locs cells slots Q (F0 m pc ls (.int x :: .int i :: .ref (xa 4) :: rest)) := by
  have e_v : (fun j => b2i (k_v (va_up cK i.toNatClampNeg (s_b (cK i.toNatClampNeg) x) j))) = fun j => b2i (k_v (cK j)) := by
    funext j
    by_cases h : j = i.toNatClampNeg
    · rw [h]; simp [va_up, k_v, s_b]
    · simp [va_up, h]
  have e_b : (fun j => k_b (va_up cK i.toNatClampNeg (s_b (cK i.toNatClampNeg) x) j)) = upd (fun j => k_b (cK j)) i.toNatClampNeg (x) := by
    funext j
    by_cases h : j = i.toNatClampNeg
    · rw [h]; simp [va_up, upd, k_b, s_b]
    · simp [va_up, upd, h]
  have e_t : (fun j => k_t (va_up cK i.toNatClampNeg (s_b (cK i.toNatClampNeg) x) j)) = fun j => k_t (cK j) := by
    funext j
    by_cases h : j = i.toNatClampNeg
    · rw [h]; simp [va_up, k_t, s_b]
    · simp [va_up, h]
  have e_a : (fun j => k_a (va_up cK i.toNatClampNeg (s_b (cK i.toNatClampNeg) x) j)) = fun j => k_a (cK j) := by
    funext j
    by_cases h : j = i.toNatClampNeg
    · rw [h]; simp [va_up, k_a, s_b]
    · simp [va_up, h]
  have e_p : (fun j => k_p (va_up cK i.toNatClampNeg (s_b (cK i.toNatClampNeg) x) j)) = fun j => k_p (cK j) := by
    funext j
    by_cases h : j = i.toNatClampNeg
    · rw [h]; simp [va_up, k_p, s_b]
    · simp [va_up, h]
  have e_y : (fun j => k_y (va_up cK i.toNatClampNeg (s_b (cK i.toNatClampNeg) x) j)) = fun j => k_y (cK j) := by
    funext j
    by_cases h : j = i.toNatClampNeg
    · rw [h]; simp [va_up, k_y, s_b]
    · simp [va_up, h]
  refine va_iast (D := D) S.1 S.2.1 hK hP hD hS 4 3 rfl rfl hin hdg (fun H1 locs1 hP1 _ hS1 => kk H1 locs1 ?_ hS1)
  unfold rW
  rw [e_v, e_b, e_t, e_a, e_p, e_y]
  exact hP1
theorem r_ald_t (S : CallFix p m c cc nL s args TB own) (hK : va_K D cls (tyR q) s) (hP : va_P D cls (rW q xa th ca st co ra rb rc im hf rz fM gT cK) H) {i : Int32} (hin : vp_in i 12) (hdg : decode cc pc = .ok (.iaload, 1))
    (kk : W p l e R s m args below meth c H locs cells slots Q (F0 m (pc + 1) ls (.int (k_t (cK i.toNatClampNeg)) :: rest))) : W p l e R s m args below meth c H locs cells slots Q (F0 m pc ls (.int i :: .ref (xa 5) :: rest)) :=
  va_iald (D := D) S.1 S.2.1 hK hP 5 4 rfl rfl hin hdg kk
theorem r_ast_t (S : CallFix p m c cc nL s args TB own) (hK : va_K D cls (tyR q) s) (hP : va_P D cls (rW q xa th ca st co ra rb rc im hf rz fM gT cK) H) (hD : va_D A (rW q xa th ca st co ra rb rc im hf rz fM gT cK)) (hS : va_S A H0 H locs) {i x : Int32} (hin : vp_in i 12) (hdg : decode cc pc = .ok (.iastore, 1))
    (kk : ∀ (H1 : Heap) (locs1 : List Loc), va_P D cls (rW q xa th ca st co ra rb rc im hf rz fM gT (va_up cK i.toNatClampNeg (s_t (cK i.toNatClampNeg) x))) H1 → va_S A H0 H1 locs1 → W p l e R s m args below meth c H1 locs1 cells slots Q (F0 m (pc + 1) ls rest)) : W p l e R s m args below meth c H locs cells slots Q (F0 m pc ls (.int x :: .int i :: .ref (xa 5) :: rest)) := by
  have e_v : (fun j => b2i (k_v (va_up cK i.toNatClampNeg (s_t (cK i.toNatClampNeg) x) j))) = fun j => b2i (k_v (cK j)) := by
    funext j
    by_cases h : j = i.toNatClampNeg
    · rw [h]; simp [va_up, k_v, s_t]
    · simp [va_up, h]
  have e_b : (fun j => k_b (va_up cK i.toNatClampNeg (s_t (cK i.toNatClampNeg) x) j)) = fun j => k_b (cK j) := by
    funext j
    by_cases h : j = i.toNatClampNeg
    · rw [h]; simp [va_up, k_b, s_t]
    · simp [va_up, h]
  have e_t : (fun j => k_t (va_up cK i.toNatClampNeg (s_t (cK i.toNatClampNeg) x) j)) = upd (fun j => k_t (cK j)) i.toNatClampNeg (x) := by
    funext j
    by_cases h : j = i.toNatClampNeg
    · rw [h]; simp [va_up, upd, k_t, s_t]
    · simp [va_up, upd, h]
  have e_a : (fun j => k_a (va_up cK i.toNatClampNeg (s_t (cK i.toNatClampNeg) x) j)) = fun j => k_a (cK j) := by
    funext j
    by_cases h : j = i.toNatClampNeg
    · rw [h]; simp [va_up, k_a, s_t]
    · simp [va_up, h]
  have e_p : (fun j => k_p (va_up cK i.toNatClampNeg (s_t (cK i.toNatClampNeg) x) j)) = fun j => k_p (cK j) := by
    funext j
    by_cases h : j = i.toNatClampNeg
    · rw [h]; simp [va_up, k_p, s_t]
    · simp [va_up, h]
  have e_y : (fun j => k_y (va_up cK i.toNatClampNeg (s_t (cK i.toNatClampNeg) x) j)) = fun j => k_y (cK j) := by
    funext j
    by_cases h : j = i.toNatClampNeg
    · rw [h]; simp [va_up, k_y, s_t]
    · simp [va_up, h]
  refine va_iast (D := D) S.1 S.2.1 hK hP hD hS 5 4 rfl rfl hin hdg (fun H1 locs1 hP1 _ hS1 => kk H1 locs1 ?_ hS1)
  unfold rW
  rw [e_v, e_b, e_t, e_a, e_p, e_y]
  exact hP1
theorem r_ald_a (S : CallFix p m c cc nL s args TB own) (hK : va_K D cls (tyR q) s) (hP : va_P D cls (rW q xa th ca st co ra rb rc im hf rz fM gT cK) H) {i : Int32} (hin : vp_in i 12) (hdg : decode cc pc = .ok (.iaload, 1))
    (kk : W p l e R s m args below meth c H locs cells slots Q (F0 m (pc + 1) ls (.int (k_a (cK i.toNatClampNeg)) :: rest))) : W p l e R s m args below meth c H locs cells slots Q (F0 m pc ls (.int i :: .ref (xa 6) :: rest)) :=
  va_iald (D := D) S.1 S.2.1 hK hP 6 5 rfl rfl hin hdg kk
theorem r_ast_a (S : CallFix p m c cc nL s args TB own) (hK : va_K D cls (tyR q) s) (hP : va_P D cls (rW q xa th ca st co ra rb rc im hf rz fM gT cK) H) (hD : va_D A (rW q xa th ca st co ra rb rc im hf rz fM gT cK)) (hS : va_S A H0 H locs) {i x : Int32} (hin : vp_in i 12) (hdg : decode cc pc = .ok (.iastore, 1))
    (kk : ∀ (H1 : Heap) (locs1 : List Loc), va_P D cls (rW q xa th ca st co ra rb rc im hf rz fM gT (va_up cK i.toNatClampNeg (s_a (cK i.toNatClampNeg) x))) H1 → va_S A H0 H1 locs1 → W p l e R s m args below meth c H1 locs1 cells slots Q (F0 m (pc + 1) ls rest)) : W p l e R s m args below meth c H locs cells slots Q (F0 m pc ls (.int x :: .int i :: .ref (xa 6) :: rest)) := by
  have e_v : (fun j => b2i (k_v (va_up cK i.toNatClampNeg (s_a (cK i.toNatClampNeg) x) j))) = fun j => b2i (k_v (cK j)) := by
    funext j
    by_cases h : j = i.toNatClampNeg
    · rw [h]; simp [va_up, k_v, s_a]
    · simp [va_up, h]
  have e_b : (fun j => k_b (va_up cK i.toNatClampNeg (s_a (cK i.toNatClampNeg) x) j)) = fun j => k_b (cK j) := by
    funext j
    by_cases h : j = i.toNatClampNeg
    · rw [h]; simp [va_up, k_b, s_a]
    · simp [va_up, h]
  have e_t : (fun j => k_t (va_up cK i.toNatClampNeg (s_a (cK i.toNatClampNeg) x) j)) = fun j => k_t (cK j) := by
    funext j
    by_cases h : j = i.toNatClampNeg
    · rw [h]; simp [va_up, k_t, s_a]
    · simp [va_up, h]
  have e_a : (fun j => k_a (va_up cK i.toNatClampNeg (s_a (cK i.toNatClampNeg) x) j)) = upd (fun j => k_a (cK j)) i.toNatClampNeg (x) := by
    funext j
    by_cases h : j = i.toNatClampNeg
    · rw [h]; simp [va_up, upd, k_a, s_a]
    · simp [va_up, upd, h]
  have e_p : (fun j => k_p (va_up cK i.toNatClampNeg (s_a (cK i.toNatClampNeg) x) j)) = fun j => k_p (cK j) := by
    funext j
    by_cases h : j = i.toNatClampNeg
    · rw [h]; simp [va_up, k_p, s_a]
    · simp [va_up, h]
  have e_y : (fun j => k_y (va_up cK i.toNatClampNeg (s_a (cK i.toNatClampNeg) x) j)) = fun j => k_y (cK j) := by
    funext j
    by_cases h : j = i.toNatClampNeg
    · rw [h]; simp [va_up, k_y, s_a]
    · simp [va_up, h]
  refine va_iast (D := D) S.1 S.2.1 hK hP hD hS 6 5 rfl rfl hin hdg (fun H1 locs1 hP1 _ hS1 => kk H1 locs1 ?_ hS1)
  unfold rW
  rw [e_v, e_b, e_t, e_a, e_p, e_y]
  exact hP1
theorem r_ald_p (S : CallFix p m c cc nL s args TB own) (hK : va_K D cls (tyR q) s) (hP : va_P D cls (rW q xa th ca st co ra rb rc im hf rz fM gT cK) H) {i : Int32} (hin : vp_in i 12) (hdg : decode cc pc = .ok (.iaload, 1))
    (kk : W p l e R s m args below meth c H locs cells slots Q (F0 m (pc + 1) ls (.int (k_p (cK i.toNatClampNeg)) :: rest))) : W p l e R s m args below meth c H locs cells slots Q (F0 m pc ls (.int i :: .ref (xa 7) :: rest)) :=
  va_iald (D := D) S.1 S.2.1 hK hP 7 6 rfl rfl hin hdg kk
theorem r_ast_p (S : CallFix p m c cc nL s args TB own) (hK : va_K D cls (tyR q) s) (hP : va_P D cls (rW q xa th ca st co ra rb rc im hf rz fM gT cK) H) (hD : va_D A (rW q xa th ca st co ra rb rc im hf rz fM gT cK)) (hS : va_S A H0 H locs) {i x : Int32} (hin : vp_in i 12) (hdg : decode cc pc = .ok (.iastore, 1))
    (kk : ∀ (H1 : Heap) (locs1 : List Loc), va_P D cls (rW q xa th ca st co ra rb rc im hf rz fM gT (va_up cK i.toNatClampNeg (s_p (cK i.toNatClampNeg) x))) H1 → va_S A H0 H1 locs1 → W p l e R s m args below meth c H1 locs1 cells slots Q (F0 m (pc + 1) ls rest)) : W p l e R s m args below meth c H locs cells slots Q (F0 m pc ls (.int x :: .int i :: .ref (xa 7) :: rest)) := by
  have e_v : (fun j => b2i (k_v (va_up cK i.toNatClampNeg (s_p (cK i.toNatClampNeg) x) j))) = fun j => b2i (k_v (cK j)) := by
    funext j
    by_cases h : j = i.toNatClampNeg
    · rw [h]; simp [va_up, k_v, s_p]
    · simp [va_up, h]
  have e_b : (fun j => k_b (va_up cK i.toNatClampNeg (s_p (cK i.toNatClampNeg) x) j)) = fun j => k_b (cK j) := by
    funext j
    by_cases h : j = i.toNatClampNeg
    · rw [h]; simp [va_up, k_b, s_p]
    · simp [va_up, h]
  have e_t : (fun j => k_t (va_up cK i.toNatClampNeg (s_p (cK i.toNatClampNeg) x) j)) = fun j => k_t (cK j) := by
    funext j
    by_cases h : j = i.toNatClampNeg
    · rw [h]; simp [va_up, k_t, s_p]
    · simp [va_up, h]
  have e_a : (fun j => k_a (va_up cK i.toNatClampNeg (s_p (cK i.toNatClampNeg) x) j)) = fun j => k_a (cK j) := by
    funext j
    by_cases h : j = i.toNatClampNeg
    · rw [h]; simp [va_up, k_a, s_p]
    · simp [va_up, h]
  have e_p : (fun j => k_p (va_up cK i.toNatClampNeg (s_p (cK i.toNatClampNeg) x) j)) = upd (fun j => k_p (cK j)) i.toNatClampNeg (x) := by
    funext j
    by_cases h : j = i.toNatClampNeg
    · rw [h]; simp [va_up, upd, k_p, s_p]
    · simp [va_up, upd, h]
  have e_y : (fun j => k_y (va_up cK i.toNatClampNeg (s_p (cK i.toNatClampNeg) x) j)) = fun j => k_y (cK j) := by
    funext j
    by_cases h : j = i.toNatClampNeg
    · rw [h]; simp [va_up, k_y, s_p]
    · simp [va_up, h]
  refine va_iast (D := D) S.1 S.2.1 hK hP hD hS 7 6 rfl rfl hin hdg (fun H1 locs1 hP1 _ hS1 => kk H1 locs1 ?_ hS1)
  unfold rW
  rw [e_v, e_b, e_t, e_a, e_p, e_y]
  exact hP1
theorem r_ald_y (S : CallFix p m c cc nL s args TB own) (hK : va_K D cls (tyR q) s) (hP : va_P D cls (rW q xa th ca st co ra rb rc im hf rz fM gT cK) H) {i : Int32} (hin : vp_in i 12) (hdg : decode cc pc = .ok (.iaload, 1))
    (kk : W p l e R s m args below meth c H locs cells slots Q (F0 m (pc + 1) ls (.int (k_y (cK i.toNatClampNeg)) :: rest))) : W p l e R s m args below meth c H locs cells slots Q (F0 m pc ls (.int i :: .ref (xa 8) :: rest)) :=
  va_iald (D := D) S.1 S.2.1 hK hP 8 7 rfl rfl hin hdg kk
theorem r_ast_y (S : CallFix p m c cc nL s args TB own) (hK : va_K D cls (tyR q) s) (hP : va_P D cls (rW q xa th ca st co ra rb rc im hf rz fM gT cK) H) (hD : va_D A (rW q xa th ca st co ra rb rc im hf rz fM gT cK)) (hS : va_S A H0 H locs) {i x : Int32} (hin : vp_in i 12) (hdg : decode cc pc = .ok (.iastore, 1))
    (kk : ∀ (H1 : Heap) (locs1 : List Loc), va_P D cls (rW q xa th ca st co ra rb rc im hf rz fM gT (va_up cK i.toNatClampNeg (s_y (cK i.toNatClampNeg) x))) H1 → va_S A H0 H1 locs1 → W p l e R s m args below meth c H1 locs1 cells slots Q (F0 m (pc + 1) ls rest)) : W p l e R s m args below meth c H locs cells slots Q (F0 m pc ls (.int x :: .int i :: .ref (xa 8) :: rest)) := by
  have e_v : (fun j => b2i (k_v (va_up cK i.toNatClampNeg (s_y (cK i.toNatClampNeg) x) j))) = fun j => b2i (k_v (cK j)) := by
    funext j
    by_cases h : j = i.toNatClampNeg
    · rw [h]; simp [va_up, k_v, s_y]
    · simp [va_up, h]
  have e_b : (fun j => k_b (va_up cK i.toNatClampNeg (s_y (cK i.toNatClampNeg) x) j)) = fun j => k_b (cK j) := by
    funext j
    by_cases h : j = i.toNatClampNeg
    · rw [h]; simp [va_up, k_b, s_y]
    · simp [va_up, h]
  have e_t : (fun j => k_t (va_up cK i.toNatClampNeg (s_y (cK i.toNatClampNeg) x) j)) = fun j => k_t (cK j) := by
    funext j
    by_cases h : j = i.toNatClampNeg
    · rw [h]; simp [va_up, k_t, s_y]
    · simp [va_up, h]
  have e_a : (fun j => k_a (va_up cK i.toNatClampNeg (s_y (cK i.toNatClampNeg) x) j)) = fun j => k_a (cK j) := by
    funext j
    by_cases h : j = i.toNatClampNeg
    · rw [h]; simp [va_up, k_a, s_y]
    · simp [va_up, h]
  have e_p : (fun j => k_p (va_up cK i.toNatClampNeg (s_y (cK i.toNatClampNeg) x) j)) = fun j => k_p (cK j) := by
    funext j
    by_cases h : j = i.toNatClampNeg
    · rw [h]; simp [va_up, k_p, s_y]
    · simp [va_up, h]
  have e_y : (fun j => k_y (va_up cK i.toNatClampNeg (s_y (cK i.toNatClampNeg) x) j)) = upd (fun j => k_y (cK j)) i.toNatClampNeg (x) := by
    funext j
    by_cases h : j = i.toNatClampNeg
    · rw [h]; simp [va_up, upd, k_y, s_y]
    · simp [va_up, upd, h]
  refine va_iast (D := D) S.1 S.2.1 hK hP hD hS 8 7 rfl rfl hin hdg (fun H1 locs1 hP1 _ hS1 => kk H1 locs1 ?_ hS1)
  unfold rW
  rw [e_v, e_b, e_t, e_a, e_p, e_y]
  exact hP1
theorem r_ald_vO (S : CallFix p m c cc nL s args TB own) (hK : va_K D cls (tyR q) s) {i : Int32} {y : Cp} (hP : va_P D cls (rW q xa th ca st co ra rb rc im hf rz fM gT (va_up cK i.toNatClampNeg y)) H) (hin : vp_in i 12) {v : Int32} (hv : b2i (k_v y) = v) (hdg : decode cc pc = .ok (.baload, 1))
    (kk : W p l e R s m args below meth c H locs cells slots Q (F0 m (pc + 1) ls (.int v :: rest))) : W p l e R s m args below meth c H locs cells slots Q (F0 m pc ls (.int i :: .ref (xa 3) :: rest)) := by
  refine r_ald_v S hK hP hin hdg ?_
  rw [va_up_self, hv]
  exact kk
theorem r_ast_vO (S : CallFix p m c cc nL s args TB own) (hK : va_K D cls (tyR q) s) {i : Int32} {y : Cp} (hP : va_P D cls (rW q xa th ca st co ra rb rc im hf rz fM gT (va_up cK i.toNatClampNeg y)) H) (hD : va_D A (rW q xa th ca st co ra rb rc im hf rz fM gT (va_up cK i.toNatClampNeg y))) (hS : va_S A H0 H locs) {z : Bool} (hin : vp_in i 12) (hdg : decode cc pc = .ok (.bastore, 1))
    (kk : ∀ (H1 : Heap) (locs1 : List Loc), va_P D cls (rW q xa th ca st co ra rb rc im hf rz fM gT (va_up cK i.toNatClampNeg (s_v y z))) H1 → va_S A H0 H1 locs1 → W p l e R s m args below meth c H1 locs1 cells slots Q (F0 m (pc + 1) ls rest)) : W p l e R s m args below meth c H locs cells slots Q (F0 m pc ls (.int (b2i z) :: .int i :: .ref (xa 3) :: rest)) :=
  r_ast_v S hK hP hD hS hin hdg (fun H1 locs1 hP1 hS1 => kk H1 locs1 (by rw [va_up_self, bx_uu] at hP1; exact hP1) hS1)
theorem r_ald_bO (S : CallFix p m c cc nL s args TB own) (hK : va_K D cls (tyR q) s) {i : Int32} {y : Cp} (hP : va_P D cls (rW q xa th ca st co ra rb rc im hf rz fM gT (va_up cK i.toNatClampNeg y)) H) (hin : vp_in i 12) {v : Int32} (hv : k_b y = v) (hdg : decode cc pc = .ok (.iaload, 1))
    (kk : W p l e R s m args below meth c H locs cells slots Q (F0 m (pc + 1) ls (.int v :: rest))) : W p l e R s m args below meth c H locs cells slots Q (F0 m pc ls (.int i :: .ref (xa 4) :: rest)) := by
  refine r_ald_b S hK hP hin hdg ?_
  rw [va_up_self, hv]
  exact kk
theorem r_ast_bO (S : CallFix p m c cc nL s args TB own) (hK : va_K D cls (tyR q) s) {i : Int32} {y : Cp} (hP : va_P D cls (rW q xa th ca st co ra rb rc im hf rz fM gT (va_up cK i.toNatClampNeg y)) H) (hD : va_D A (rW q xa th ca st co ra rb rc im hf rz fM gT (va_up cK i.toNatClampNeg y))) (hS : va_S A H0 H locs) {x : Int32} (hin : vp_in i 12) (hdg : decode cc pc = .ok (.iastore, 1))
    (kk : ∀ (H1 : Heap) (locs1 : List Loc), va_P D cls (rW q xa th ca st co ra rb rc im hf rz fM gT (va_up cK i.toNatClampNeg (s_b y x))) H1 → va_S A H0 H1 locs1 → W p l e R s m args below meth c H1 locs1 cells slots Q (F0 m (pc + 1) ls rest)) : W p l e R s m args below meth c H locs cells slots Q (F0 m pc ls (.int x :: .int i :: .ref (xa 4) :: rest)) :=
  r_ast_b S hK hP hD hS hin hdg (fun H1 locs1 hP1 hS1 => kk H1 locs1 (by rw [va_up_self, bx_uu] at hP1; exact hP1) hS1)
theorem r_ald_tO (S : CallFix p m c cc nL s args TB own) (hK : va_K D cls (tyR q) s) {i : Int32} {y : Cp} (hP : va_P D cls (rW q xa th ca st co ra rb rc im hf rz fM gT (va_up cK i.toNatClampNeg y)) H) (hin : vp_in i 12) {v : Int32} (hv : k_t y = v) (hdg : decode cc pc = .ok (.iaload, 1))
    (kk : W p l e R s m args below meth c H locs cells slots Q (F0 m (pc + 1) ls (.int v :: rest))) : W p l e R s m args below meth c H locs cells slots Q (F0 m pc ls (.int i :: .ref (xa 5) :: rest)) := by
  refine r_ald_t S hK hP hin hdg ?_
  rw [va_up_self, hv]
  exact kk
theorem r_ast_tO (S : CallFix p m c cc nL s args TB own) (hK : va_K D cls (tyR q) s) {i : Int32} {y : Cp} (hP : va_P D cls (rW q xa th ca st co ra rb rc im hf rz fM gT (va_up cK i.toNatClampNeg y)) H) (hD : va_D A (rW q xa th ca st co ra rb rc im hf rz fM gT (va_up cK i.toNatClampNeg y))) (hS : va_S A H0 H locs) {x : Int32} (hin : vp_in i 12) (hdg : decode cc pc = .ok (.iastore, 1))
    (kk : ∀ (H1 : Heap) (locs1 : List Loc), va_P D cls (rW q xa th ca st co ra rb rc im hf rz fM gT (va_up cK i.toNatClampNeg (s_t y x))) H1 → va_S A H0 H1 locs1 → W p l e R s m args below meth c H1 locs1 cells slots Q (F0 m (pc + 1) ls rest)) : W p l e R s m args below meth c H locs cells slots Q (F0 m pc ls (.int x :: .int i :: .ref (xa 5) :: rest)) :=
  r_ast_t S hK hP hD hS hin hdg (fun H1 locs1 hP1 hS1 => kk H1 locs1 (by rw [va_up_self, bx_uu] at hP1; exact hP1) hS1)
theorem r_ald_aO (S : CallFix p m c cc nL s args TB own) (hK : va_K D cls (tyR q) s) {i : Int32} {y : Cp} (hP : va_P D cls (rW q xa th ca st co ra rb rc im hf rz fM gT (va_up cK i.toNatClampNeg y)) H) (hin : vp_in i 12) {v : Int32} (hv : k_a y = v) (hdg : decode cc pc = .ok (.iaload, 1))
    (kk : W p l e R s m args below meth c H locs cells slots Q (F0 m (pc + 1) ls (.int v :: rest))) : W p l e R s m args below meth c H locs cells slots Q (F0 m pc ls (.int i :: .ref (xa 6) :: rest)) := by
  refine r_ald_a S hK hP hin hdg ?_
  rw [va_up_self, hv]
  exact kk
theorem r_ast_aO (S : CallFix p m c cc nL s args TB own) (hK : va_K D cls (tyR q) s) {i : Int32} {y : Cp} (hP : va_P D cls (rW q xa th ca st co ra rb rc im hf rz fM gT (va_up cK i.toNatClampNeg y)) H) (hD : va_D A (rW q xa th ca st co ra rb rc im hf rz fM gT (va_up cK i.toNatClampNeg y))) (hS : va_S A H0 H locs) {x : Int32} (hin : vp_in i 12) (hdg : decode cc pc = .ok (.iastore, 1))
    (kk : ∀ (H1 : Heap) (locs1 : List Loc), va_P D cls (rW q xa th ca st co ra rb rc im hf rz fM gT (va_up cK i.toNatClampNeg (s_a y x))) H1 → va_S A H0 H1 locs1 → W p l e R s m args below meth c H1 locs1 cells slots Q (F0 m (pc + 1) ls rest)) : W p l e R s m args below meth c H locs cells slots Q (F0 m pc ls (.int x :: .int i :: .ref (xa 6) :: rest)) :=
  r_ast_a S hK hP hD hS hin hdg (fun H1 locs1 hP1 hS1 => kk H1 locs1 (by rw [va_up_self, bx_uu] at hP1; exact hP1) hS1)
theorem r_ald_pO (S : CallFix p m c cc nL s args TB own) (hK : va_K D cls (tyR q) s) {i : Int32} {y : Cp} (hP : va_P D cls (rW q xa th ca st co ra rb rc im hf rz fM gT (va_up cK i.toNatClampNeg y)) H) (hin : vp_in i 12) {v : Int32} (hv : k_p y = v) (hdg : decode cc pc = .ok (.iaload, 1))
    (kk : W p l e R s m args below meth c H locs cells slots Q (F0 m (pc + 1) ls (.int v :: rest))) : W p l e R s m args below meth c H locs cells slots Q (F0 m pc ls (.int i :: .ref (xa 7) :: rest)) := by
  refine r_ald_p S hK hP hin hdg ?_
  rw [va_up_self, hv]
  exact kk
theorem r_ast_pO (S : CallFix p m c cc nL s args TB own) (hK : va_K D cls (tyR q) s) {i : Int32} {y : Cp} (hP : va_P D cls (rW q xa th ca st co ra rb rc im hf rz fM gT (va_up cK i.toNatClampNeg y)) H) (hD : va_D A (rW q xa th ca st co ra rb rc im hf rz fM gT (va_up cK i.toNatClampNeg y))) (hS : va_S A H0 H locs) {x : Int32} (hin : vp_in i 12) (hdg : decode cc pc = .ok (.iastore, 1))
    (kk : ∀ (H1 : Heap) (locs1 : List Loc), va_P D cls (rW q xa th ca st co ra rb rc im hf rz fM gT (va_up cK i.toNatClampNeg (s_p y x))) H1 → va_S A H0 H1 locs1 → W p l e R s m args below meth c H1 locs1 cells slots Q (F0 m (pc + 1) ls rest)) : W p l e R s m args below meth c H locs cells slots Q (F0 m pc ls (.int x :: .int i :: .ref (xa 7) :: rest)) :=
  r_ast_p S hK hP hD hS hin hdg (fun H1 locs1 hP1 hS1 => kk H1 locs1 (by rw [va_up_self, bx_uu] at hP1; exact hP1) hS1)
theorem r_ald_yO (S : CallFix p m c cc nL s args TB own) (hK : va_K D cls (tyR q) s) {i : Int32} {y : Cp} (hP : va_P D cls (rW q xa th ca st co ra rb rc im hf rz fM gT (va_up cK i.toNatClampNeg y)) H) (hin : vp_in i 12) {v : Int32} (hv : k_y y = v) (hdg : decode cc pc = .ok (.iaload, 1))
    (kk : W p l e R s m args below meth c H locs cells slots Q (F0 m (pc + 1) ls (.int v :: rest))) : W p l e R s m args below meth c H locs cells slots Q (F0 m pc ls (.int i :: .ref (xa 8) :: rest)) := by
  refine r_ald_y S hK hP hin hdg ?_
  rw [va_up_self, hv]
  exact kk
theorem r_ast_yO (S : CallFix p m c cc nL s args TB own) (hK : va_K D cls (tyR q) s) {i : Int32} {y : Cp} (hP : va_P D cls (rW q xa th ca st co ra rb rc im hf rz fM gT (va_up cK i.toNatClampNeg y)) H) (hD : va_D A (rW q xa th ca st co ra rb rc im hf rz fM gT (va_up cK i.toNatClampNeg y))) (hS : va_S A H0 H locs) {x : Int32} (hin : vp_in i 12) (hdg : decode cc pc = .ok (.iastore, 1))
    (kk : ∀ (H1 : Heap) (locs1 : List Loc), va_P D cls (rW q xa th ca st co ra rb rc im hf rz fM gT (va_up cK i.toNatClampNeg (s_y y x))) H1 → va_S A H0 H1 locs1 → W p l e R s m args below meth c H1 locs1 cells slots Q (F0 m (pc + 1) ls rest)) : W p l e R s m args below meth c H locs cells slots Q (F0 m pc ls (.int x :: .int i :: .ref (xa 8) :: rest)) :=
  r_ast_y S hK hP hD hS hin hdg (fun H1 locs1 hP1 hS1 => kk H1 locs1 (by rw [va_up_self, bx_uu] at hP1; exact hP1) hS1)
end OwnRef
