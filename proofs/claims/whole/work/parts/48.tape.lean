/-! The class's tape -/
section TAPE
/-- the tape's numbers: where it stands, where the token starts, the value, the fault's kind and place -/
def tp (σ : jH) (a s v k p : Int) : jH := hsi (hsi (hsi (hsi (hsi σ 1 3 a) 1 4 s) 1 5 v) 1 6 k) 1 7 p
section
variable (σ : jH) (a s v k p x : Int)
theorem hsh_tp : hsh (tp σ a s v k p) = hsh σ := by rw [tp, hsh_si, hsh_si, hsh_si, hsh_si, hsh_si]
theorem hp_tp : hp (tp σ a s v k p) = hp σ := by rw [tp, hp_si, hp_si, hp_si, hp_si, hp_si]
theorem hl_tp : hl (tp σ a s v k p) = hl σ := by rw [tp, hl_si, hl_si, hl_si, hl_si, hl_si]
theorem hi_tp1 : hi (tp σ a s v k p) 1 1 = hi σ 1 1 := by simp [tp, hi_si]
theorem hi_tp2 : hi (tp σ a s v k p) 1 2 = hi σ 1 2 := by simp [tp, hi_si]
theorem hi_tp3 : hi (tp σ a s v k p) 1 3 = a := by simp [tp, hi_si]
theorem hi_tp4 : hi (tp σ a s v k p) 1 4 = s := by simp [tp, hi_si]
theorem hi_tp5 : hi (tp σ a s v k p) 1 5 = v := by simp [tp, hi_si]
theorem hi_tp6 : hi (tp σ a s v k p) 1 6 = k := by simp [tp, hi_si]
theorem hi_tp7 : hi (tp σ a s v k p) 1 7 = p := by simp [tp, hi_si]
theorem hi_tp {r : Nat} (h : r ≠ 1) : hi (tp σ a s v k p) r = hi σ r := by unfold tp; simp only [hi_si_ne h]
theorem tp_of : tp σ (hi σ 1 3) (hi σ 1 4) (hi σ 1 5) (hi σ 1 6) (hi σ 1 7) = σ := by
  unfold tp
  rw [hsi_self, hsi_self, hsi_self, hsi_self, hsi_self]
theorem tp_3 : hsi (tp σ a s v k p) 1 3 x = tp σ x s v k p := by
  unfold tp
  rw [hsi_comm (r := 1) (k := 7) (by omega), hsi_comm (r := 1) (k := 6) (by omega), hsi_comm (r := 1) (k := 5) (by omega), hsi_comm (r := 1) (k := 4) (by omega), hsi_idem]
theorem tp_4 : hsi (tp σ a s v k p) 1 4 x = tp σ a x v k p := by
  unfold tp
  rw [hsi_comm (r := 1) (k := 7) (by omega), hsi_comm (r := 1) (k := 6) (by omega), hsi_comm (r := 1) (k := 5) (by omega), hsi_idem]
theorem tp_5 : hsi (tp σ a s v k p) 1 5 x = tp σ a s x k p := by
  unfold tp
  rw [hsi_comm (r := 1) (k := 7) (by omega), hsi_comm (r := 1) (k := 6) (by omega), hsi_idem]
theorem tp_6 : hsi (tp σ a s v k p) 1 6 x = tp σ a s v x p := by
  unfold tp
  rw [hsi_comm (r := 1) (k := 7) (by omega), hsi_idem]
theorem tp_7 : hsi (tp σ a s v k p) 1 7 x = tp σ a s v k x := by
  unfold tp
  rw [hsi_idem]
end
/-- bytes are bytes -/
def By (b : Nat → Int) : Prop := ∀ j, 0 ≤ b j ∧ b j ≤ 255
section
variable {sc : jSc} {σ : jH} {e a : Nat} {s v k p : Int}
theorem By.w {b : Nat → Int} (h : By b) (j : Nat) : j_w (b j) = b j := by
  have := h j
  exact j_w_id (by omega) (by omega)
end
end TAPE
