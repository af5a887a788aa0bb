-- booleans as the machine holds them
def b2i (b : Bool) : Int32 := match b with
  | true => 1
  | false => 0
theorem b2i_nar (b : Bool) : narrow .boolean (.int (b2i b)) = .int (b2i b) := by cases b <;> rfl
theorem b2i_fit (b : Bool) : fits .boolean (.int (b2i b)) = true := by cases b <;> rfl
theorem b2i_vp (b : Bool) : vp_nar .boolean (b2i b) = b2i b := by cases b <;> rfl
theorem b2i_0 (b : Bool) : b2i b = 0 ↔ b = false := by cases b <;> decide
theorem b2i_e (a b : Bool) : b2i a = b2i b ↔ a = b := by cases a <;> cases b <;> decide
theorem bn_f {b : Bool} (h : b = false) : ¬ b = true := by rw [h]; exact Bool.false_ne_true
theorem bn_n {b : Bool} (h : ¬ b = true) : b = false := by cases b with
  | true => exact absurd rfl h
  | false => rfl
-- what a capability is: valid, base, top, permissions, type, address (the order of the class's fields)
abbrev Cp : Type := Bool × Int32 × Int32 × Int32 × Int32 × Int32
def k_v (x : Cp) : Bool := x.1
def k_b (x : Cp) : Int32 := x.2.1
def k_t (x : Cp) : Int32 := x.2.2.1
def k_p (x : Cp) : Int32 := x.2.2.2.1
def k_y (x : Cp) : Int32 := x.2.2.2.2.1
def k_a (x : Cp) : Int32 := x.2.2.2.2.2
def s_v (x : Cp) (v : Bool) : Cp := (v, x.2)
def s_b (x : Cp) (v : Int32) : Cp := (x.1, v, x.2.2)
def s_t (x : Cp) (v : Int32) : Cp := (x.1, x.2.1, v, x.2.2.2)
def s_p (x : Cp) (v : Int32) : Cp := (x.1, x.2.1, x.2.2.1, v, x.2.2.2.2)
def s_y (x : Cp) (v : Int32) : Cp := (x.1, x.2.1, x.2.2.1, x.2.2.2.1, v, x.2.2.2.2.2)
def s_a (x : Cp) (v : Int32) : Cp := (x.1, x.2.1, x.2.2.1, x.2.2.2.1, x.2.2.2.2.1, v)
def capL (x : Cp) : List Value := [.int (b2i (k_v x)), .int (k_b x), .int (k_t x), .int (k_p x), .int (k_y x), .int (k_a x)]
def bank (ad : Nat → Nat) (c : Nat → Cp) : va_W := (List.range 12).map (fun i => (ad i, .inr (0, capL (c i))))
def mF (xa ad : Nat → Nat) (sS sC : Int32) : List Value := [.ref (xa 1), .ref (ad 8), .ref (ad 9), .ref (ad 10), .ref (ad 11), .ref (xa 2), .int sS, .int sC]
def mX (q : Nat → ClassId) (xa ad : Nat → Nat) (sS sC : Int32) (fB : Nat → Int32) (gT : Nat → Bool) : va_W :=
  [(xa 0, .inr (2, mF xa ad sS sC)), (xa 1, .inl (q 0, 11, .inr (.inr (.inr (.inr (fun i => some (ad i))))))), (xa 2, .inr (1, [.ref (xa 3), .ref (xa 4)])), (xa 3, .inl (q 1, 512, .inl fB)), (xa 4, .inl (q 2, 64, .inl (fun k => b2i (gT k))))]
/-- the machine's world: its object, the array of slots, the memory's object and its two arrays, twelve capabilities -/
def mW (q : Nat → ClassId) (xa ad : Nat → Nat) (sS sC : Int32) (fB : Nat → Int32) (gT : Nat → Bool) (cK : Nat → Cp) : va_W := mX q xa ad sS sC fB gT ++ bank ad cK
def tyM (q : Nat → ClassId) : List (ClassId × FieldType) := [(q 0, .object R_K), (q 1, .byte), (q 2, .boolean)]
theorem bank_len {ad : Nat → Nat} {c : Nat → Cp} : (bank ad c).length = 12 := by simp [bank]
theorem bank_get {X : va_W} {ad : Nat → Nat} {c : Nat → Cp} {i : Nat} (hi : i < 12) : (X ++ bank ad c)[X.length + i]? = some (ad i, .inr (0, capL (c i))) := by
  rw [List.getElem?_append_right (by omega), Nat.add_sub_cancel_left]
  simp [bank, hi]
theorem bank_set {X : va_W} {ad : Nat → Nat} {c : Nat → Cp} {i : Nat} (x : Cp) (hi : i < 12) : (X ++ bank ad c).set (X.length + i) (ad i, .inr (0, capL x)) = X ++ bank ad (va_up c i x) := by
  apply List.ext_getElem?
  intro j
  by_cases hj : j = X.length + i
  · subst hj
    rw [List.getElem?_set_self (by rw [List.length_append, bank_len]; omega), bank_get hi, va_up_self]
  · rw [List.getElem?_set_ne (Ne.symm hj)]
    by_cases h1 : j < X.length
    · rw [List.getElem?_append_left h1, List.getElem?_append_left h1]
    · rw [List.getElem?_append_right (by omega), List.getElem?_append_right (by omega)]
      have h2 : j - X.length ≠ i := by omega
      simp only [bank, List.getElem?_map]
      cases hb : (List.range 12)[j - X.length]? with
      | none => rfl
      | some b =>
        have hb2 : b = j - X.length := by
          obtain ⟨h4, h5⟩ := List.getElem?_eq_some_iff.mp hb
          simpa using h5.symm
        subst hb2
        simp [va_up, h2]
section MW
variable {q : Nat → ClassId} {xa ad : Nat → Nat} {sS sC sS' sC' : Int32} {fB fB' : Nat → Int32} {gT gT' : Nat → Bool} {cK cK' : Nat → Cp} {A : Nat → Prop}
theorem mW_get {i : Nat} (hi : i < 12) : (mW q xa ad sS sC fB gT cK)[5 + i]? = some (ad i, .inr (0, capL (cK i))) := bank_get (X := mX q xa ad sS sC fB gT) hi
theorem mW_set {i : Nat} (x : Cp) (hi : i < 12) : (mW q xa ad sS sC fB gT cK).set (5 + i) (ad i, .inr (0, capL x)) = mW q xa ad sS sC fB gT (va_up cK i x) := bank_set (X := mX q xa ad sS sC fB gT) x hi
theorem D_map {ws ws' : va_W} (h : va_D A ws) (e : ws.map (fun z => z.1) = ws'.map (fun z => z.1)) : va_D A ws' := by
  have key : ∀ (i : Nat) (p : Nat × va_E), ws'[i]? = some p → ∃ p' : Nat × va_E, ws[i]? = some p' ∧ p'.1 = p.1 := by
    intro i p hp
    have h1 : (ws'.map (fun z => z.1))[i]? = some p.1 := by rw [List.getElem?_map, hp]; rfl
    rw [← e, List.getElem?_map] at h1
    cases hq : ws[i]? with
    | none => rw [hq] at h1; cases h1
    | some p' => rw [hq] at h1; exact ⟨p', rfl, Option.some.inj h1⟩
  refine ⟨fun i j p q hi hj hpq => ?_, fun k q hq => ?_⟩
  · obtain ⟨p', a1, a2⟩ := key i p hi
    obtain ⟨q', b1, b2⟩ := key j q hj
    exact h.1 i j p' q' a1 b1 (by rw [a2, b2, hpq])
  · obtain ⟨q', a1, a2⟩ := key k q hq
    rw [← a2]
    exact h.2 k q' a1
theorem mW_D (h : va_D A (mW q xa ad sS sC fB gT cK)) : va_D A (mW q xa ad sS' sC' fB' gT' cK') := D_map h rfl
end MW
-- the reference's world
def rF (xa : Nat → Nat) (th ca st co ra rb rc im hf : Int32) (rz : Bool) : List Value := [.int th, .ref (xa 1), .ref (xa 2), .ref (xa 3), .ref (xa 4), .ref (xa 5), .ref (xa 6), .ref (xa 7), .ref (xa 8), .int ca, .int st, .int co, .int ra, .int rb, .int rc, .int im, .int hf, .int (b2i rz)]
def rW (q : Nat → ClassId) (xa : Nat → Nat) (th ca st co ra rb rc im hf : Int32) (rz : Bool) (fM : Nat → Int32) (gT : Nat → Bool) (cK : Nat → Cp) : va_W :=
  [(xa 0, .inr (3, rF xa th ca st co ra rb rc im hf rz)), (xa 1, .inl (q 0, 512, .inl fM)), (xa 2, .inl (q 1, 64, .inl (fun k => b2i (gT k)))), (xa 3, .inl (q 2, 12, .inl (fun i => b2i (k_v (cK i))))), (xa 4, .inl (q 3, 12, .inl (fun i => k_b (cK i)))), (xa 5, .inl (q 4, 12, .inl (fun i => k_t (cK i)))), (xa 6, .inl (q 5, 12, .inl (fun i => k_a (cK i)))), (xa 7, .inl (q 6, 12, .inl (fun i => k_p (cK i)))), (xa 8, .inl (q 7, 12, .inl (fun i => k_y (cK i))))]
def tyR (q : Nat → ClassId) : List (ClassId × FieldType) := [(q 0, .int), (q 1, .boolean), (q 2, .boolean), (q 3, .int), (q 4, .int), (q 5, .int), (q 6, .int), (q 7, .int)]
section RW
variable {q : Nat → ClassId} {xa : Nat → Nat} {th ca st co ra rb rc im hf th' ca' st' co' ra' rb' rc' im' hf' : Int32} {rz rz' : Bool} {fM fM' : Nat → Int32} {gT gT' : Nat → Bool} {cK cK' : Nat → Cp} {A : Nat → Prop}
theorem rW_D (h : va_D A (rW q xa th ca st co ra rb rc im hf rz fM gT cK)) : va_D A (rW q xa th' ca' st' co' ra' rb' rc' im' hf' rz' fM' gT' cK') := D_map h rfl
theorem up_v (i : Nat) (z : Cp) (f : Nat → Cp) : (fun j => b2i (k_v (va_up f i z j))) = upd (fun j => b2i (k_v (f j))) i (b2i (k_v z)) := by funext j; by_cases h : j = i <;> simp [va_up, upd, h]
theorem up_b (i : Nat) (z : Cp) (f : Nat → Cp) : (fun j => k_b (va_up f i z j)) = upd (fun j => k_b (f j)) i (k_b z) := by funext j; by_cases h : j = i <;> simp [va_up, upd, h]
theorem up_t (i : Nat) (z : Cp) (f : Nat → Cp) : (fun j => k_t (va_up f i z j)) = upd (fun j => k_t (f j)) i (k_t z) := by funext j; by_cases h : j = i <;> simp [va_up, upd, h]
theorem up_p (i : Nat) (z : Cp) (f : Nat → Cp) : (fun j => k_p (va_up f i z j)) = upd (fun j => k_p (f j)) i (k_p z) := by funext j; by_cases h : j = i <;> simp [va_up, upd, h]
theorem up_y (i : Nat) (z : Cp) (f : Nat → Cp) : (fun j => k_y (va_up f i z j)) = upd (fun j => k_y (f j)) i (k_y z) := by funext j; by_cases h : j = i <;> simp [va_up, upd, h]
theorem up_a (i : Nat) (z : Cp) (f : Nat → Cp) : (fun j => k_a (va_up f i z j)) = upd (fun j => k_a (f j)) i (k_a z) := by funext j; by_cases h : j = i <;> simp [va_up, upd, h]
theorem up_T (i : Nat) (z : Bool) (f : Nat → Bool) : (fun j => b2i (va_up f i z j)) = upd (fun j => b2i (f j)) i (b2i z) := by funext j; by_cases h : j = i <;> simp [va_up, upd, h]
theorem upd_id (f : Nat → Int32) (i : Nat) : upd f i (f i) = f := by funext j; by_cases h : j = i <;> simp [upd, h]
end RW
