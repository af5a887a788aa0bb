-- what a step keeps, one side alone
section Inv
variable {fB fM : Nat → Int32} {gT gU : Nat → Bool} {c d cK : Nat → Cp}
theorem Qr.rf : Qr c c := fun _ _ => rfl
theorem gr_sk {sS : Int32} (hG : Gr c) (h : (f_M_step sS fB gT c).1 = 0) : Gr (f_M_step sS fB gT c).2.2.2.2 := by
  obtain ⟨-, -, h1 | h1⟩ := st_sim (fB := fB) (fM := fun k => fB k &&& 255) (gT := gT) (gU := gT) (c := c) (d := c) Qr.rf (fun _ _ => rfl) (fun _ _ => rfl) hG sS 0 0 0 0 0 0 0
  · exact h1.2.2.2.2.2
  · exact absurd h h1.1
theorem gr_sn {sS : Int32} (hG : Gr c) (h : ¬ (f_M_step sS fB gT c).1 = 0) : Gr (f_M_takeException (f_M_step sS fB gT c).2.1 (f_M_step sS fB gT c).2.2.2.2 (f_M_step sS fB gT c).1).2.2 := by
  obtain ⟨-, -, h1 | h1⟩ := st_sim (fB := fB) (fM := fun k => fB k &&& 255) (gT := gT) (gU := gT) (c := c) (d := c) Qr.rf (fun _ _ => rfl) (fun _ _ => rfl) hG sS 0 0 0 0 0 0 0
  · exact absurd h1.1 h
  · exact h1.2.2.2.2.2
def Mg (f : Nat → Int32) : Prop := ∀ k, k < 512 → 0 ≤ (f k).toInt ∧ (f k).toInt ≤ 255
theorem mg_255 : ∀ n : Nat, n < 256 → nI n &&& 255 = nI n := by decide +kernel
theorem mr_rf (h : Mg fM) : Mr fM fM := fun k hk => by
  obtain ⟨a, b⟩ := h k hk
  rw [i32_of a]
  exact mg_255 _ (by omega)
theorem mr_mg (h : Mr fB fM) : Mg fM := fun k hk => by
  rw [← h k hk]
  have q := mk_r (fB k) (m := 255) 8 (by decide) (by decide)
  omega
theorem rs_inv {ca st co ra rb rc im hf : Int32} (hG : Gr d) (hm : Mg fM) : Gr (f_R_step ca st co ra rb rc im hf fM gU d).2.2.2.2.2.2.2.2.2.2.2 ∧ Mg (f_R_step ca st co ra rb rc im hf fM gU d).2.2.2.2.2.2.2.2.2.1 := by
  obtain ⟨h1, -, h2 | h2⟩ := st_sim (fB := fM) (fM := fM) (gT := gU) (gU := gU) (c := d) (d := d) Qr.rf (mr_rf hm) (fun _ _ => rfl) hG st ca co ra rb rc im hf
  · exact ⟨h2.2.2.2.2.2.to h2.2.2.2.2.1, mr_mg h1⟩
  · exact ⟨h2.2.2.2.2.2.to h2.2.2.2.2.1, mr_mg h1⟩
end Inv
