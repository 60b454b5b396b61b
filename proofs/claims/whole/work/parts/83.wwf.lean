/-! Each step keeps a town as it should be -/
section WWF
variable {sc : jSc} {σ : jH} {D : jD} {cd : lC} {w : Nat → Int}
theorem WW_ly {a x : Nat} {n : Int} (hW : WW D w) (ha : (a : Int) < D 0 0) (ha8 : a < 8) (hx : x < 12) (h0 : std w x (D 0 0).toNat = -1) (hn : 0 ≤ n ∧ n ≤ w 169) : WW D (lyW w a x n) := by
  obtain ⟨h1, h2, h3, h4⟩ := hW
  have hno := std_no.mp h0
  have hlow : ∀ b, b < 8 → lyW w a x n b = if b = a then 1 else w b := fun b hb => by
    simp only [lyW, upw_eq]
    rw [if_neg (by omega)]
    split
    · rfl
    · rw [if_neg (by omega)]
  have hcel : ∀ b, b < 8 → lyW w a x n (8 + b) = if b = a then (x : Int) else w (8 + b) := fun b hb => by
    simp only [lyW, upw_eq]
    by_cases e : b = a
    · rw [if_pos (by omega), if_pos e]
    · rw [if_neg (by omega), if_neg (by omega), if_neg (by omega), if_neg e]
  have hoth : ∀ j, 16 ≤ j → j ≠ 169 → lyW w a x n j = w j := fun j hj hj2 => by
    simp only [lyW, upw_eq]
    rw [if_neg (by omega), if_neg (by omega), if_neg hj2]
  have h169 : lyW w a x n 169 = w 169 - n := by
    simp only [lyW, upw_eq]
    rw [if_neg (by omega), if_neg (by omega), if_pos trivial]
  refine ⟨fun b hb => ?_, fun b c hb hc => ?_, ?_, fun d y hd hy => ?_⟩
  · have := h1 b hb
    rw [hlow b hb, hcel b hb, hoth (16 + b) (by omega) (by omega), hoth 170 (by omega) (by omega)]
    by_cases e : b = a
    · subst e
      simp only [↓reduceIte]
      exact ⟨by simp, fun _ => by omega, fun q => by simp at q, fun q => by simp at q, fun q => by omega⟩
    · simp only [if_neg e]
      exact this
  · rw [hlow b hb, hlow c hc, hcel b hb, hcel c hc]
    by_cases e : b = a
    · by_cases e2 : c = a
      · omega
      · simp only [if_pos e, if_neg e2]
        intro _ q1 q2
        have hc9 := h1 c hc
        have : (c : Int) < D 0 0 := by
          by_cases hcd : D 0 0 ≤ c
          · have := hc9.2.2.2.2 hcd; omega
          · omega
        exact (hno c (by omega) ⟨q1, q2.symm⟩).elim
    · by_cases e2 : c = a
      · simp only [if_neg e, if_pos e2]
        intro q1 _ q2
        have hc9 := h1 b hb
        have : (b : Int) < D 0 0 := by
          by_cases hcd : D 0 0 ≤ b
          · have := hc9.2.2.2.2 hcd; omega
          · omega
        exact (hno b (by omega) ⟨q1, q2⟩).elim
      · simp only [if_neg e, if_neg e2]
        exact h2 b c hb hc
  · rw [hoth 168 (by omega) (by omega), hoth 170 (by omega) (by omega), h169]
    omega
  · rw [hoth 168 (by omega) (by omega), hoth _ (by omega) (by omega)]
    exact h4 d y hd hy
theorem WW_tu {a : Nat} (hW : WW D w) (ha8 : a < 8) (hn : 0 ≤ hfW D a ∧ hfW D a ≤ w 169) : WW D (tuW D w a) := by
  obtain ⟨h1, h2, h3, h4⟩ := hW
  have hlow : ∀ b, b < 8 → tuW D w a b = if b = a then 0 else w b := fun b hb => by
    simp only [tuW, upw_eq]
    rw [if_neg (by omega)]
    split
    · rfl
    · rw [if_neg (by omega)]
  have hcel : ∀ b, b < 8 → tuW D w a (8 + b) = if b = a then -1 else w (8 + b) := fun b hb => by
    simp only [tuW, upw_eq]
    by_cases e : b = a
    · rw [if_pos (by omega), if_pos e]
    · rw [if_neg (by omega), if_neg (by omega), if_neg (by omega), if_neg e]
  have hoth : ∀ j, 16 ≤ j → j ≠ 169 → tuW D w a j = w j := fun j hj hj2 => by
    simp only [tuW, upw_eq]
    rw [if_neg (by omega), if_neg (by omega), if_neg hj2]
  have h169 : tuW D w a 169 = w 169 - hfW D a := by
    simp only [tuW, upw_eq]
    rw [if_neg (by omega), if_neg (by omega), if_pos trivial]
  refine ⟨fun b hb => ?_, fun b c hb hc => ?_, ?_, fun d y hd hy => ?_⟩
  · have := h1 b hb
    rw [hlow b hb, hcel b hb, hoth (16 + b) (by omega) (by omega), hoth 170 (by omega) (by omega)]
    by_cases e : b = a
    · subst e
      simp
    · simp only [if_neg e]
      exact this
  · rw [hlow b hb, hlow c hc, hcel b hb, hcel c hc]
    by_cases e : b = a
    · simp only [if_pos e]; intro q; omega
    · by_cases e2 : c = a
      · simp only [if_pos e2]; intro _ q; omega
      · simp only [if_neg e, if_neg e2]
        exact h2 b c hb hc
  · rw [hoth 168 (by omega) (by omega), hoth 170 (by omega) (by omega), h169]
    omega
  · rw [hoth 168 (by omega) (by omega), hoth _ (by omega) (by omega)]
    exact h4 d y hd hy
theorem WW_fb {a : Nat} (hW : WW D w) (ha8 : a < 8) (h2a : w a = 2) (hn : 0 ≤ fnW w a ∧ fnW w a ≤ w 169) : WW D (fbW w a) := by
  obtain ⟨h1, h2, h3, h4⟩ := hW
  have hlow : ∀ b, b < 8 → fbW w a b = if b = a then 0 else w b := fun b hb => by
    simp only [fbW, upw_eq]
    split
    · rfl
    · rw [if_neg (by omega)]
  have hoth : ∀ j, 8 ≤ j → j ≠ 169 → fbW w a j = w j := fun j hj hj2 => by
    simp only [fbW, upw_eq]
    rw [if_neg (by omega), if_neg hj2]
  have h169 : fbW w a 169 = w 169 - fnW w a := by
    simp only [fbW, upw_eq]
    rw [if_neg (by omega), if_pos trivial]
  refine ⟨fun b hb => ?_, fun b c hb hc => ?_, ?_, fun d y hd hy => ?_⟩
  · have := h1 b hb
    rw [hlow b hb, hoth (8 + b) (by omega) (by omega), hoth (16 + b) (by omega) (by omega), hoth 170 (by omega) (by omega)]
    by_cases e : b = a
    · subst e
      have := this.2.2.1 (by omega)
      simp
      exact this
    · simp only [if_neg e]
      exact this
  · rw [hlow b hb, hlow c hc, hoth (8 + b) (by omega) (by omega), hoth (8 + c) (by omega) (by omega)]
    by_cases e : b = a
    · simp only [if_pos e]; intro q; omega
    · by_cases e2 : c = a
      · simp only [if_pos e2]; intro _ q; omega
      · simp only [if_neg e, if_neg e2]
        exact h2 b c hb hc
  · rw [hoth 168 (by omega) (by omega), hoth 170 (by omega) (by omega), h169]
    omega
  · rw [hoth 168 (by omega) (by omega), hoth _ (by omega) (by omega)]
    exact h4 d y hd hy
theorem WW_dy (hD : WD D 61) (hW : WW D w) (h200 : ¬ w 168 = 200) : WW D (dyW D w) := by
  obtain ⟨h1, h2, h3, h4⟩ := hW
  have hd := hD.1
  have hlaid : ∀ b, b < 8 → w b = 1 → (b : Int) < D 0 0 := fun b hb q => by
    by_cases hcd : D 0 0 ≤ b
    · have := (h1 b hb).2.2.2.2 hcd; omega
    · omega
  have hlow : ∀ b, b < 8 → dyW D w b = if w b = 1 then 2 else w b := fun b hb => by
    simp only [dyW]
    rw [if_neg (by omega), if_neg (by omega), if_neg (by omega), if_pos hb]
    by_cases q : w b = 1
    · rw [if_pos ⟨hlaid b hb q, q⟩, if_pos q]
    · rw [if_neg (fun z => q z.2), if_neg q]
  have hcel : ∀ b, b < 8 → dyW D w (8 + b) = if w b = 1 then -1 else w (8 + b) := fun b hb => by
    simp only [dyW]
    rw [if_neg (by omega), if_neg (by omega), if_neg (by omega), if_neg (by omega), if_pos (by omega), show 8 + b - 8 = b by omega]
    by_cases q : w b = 1
    · rw [if_pos ⟨by have := hlaid b hb q; omega, q⟩, if_pos q]
    · rw [if_neg (fun z => q z.2), if_neg q]
  have hmil : ∀ b, b < 8 → dyW D w (16 + b) = if w b = 1 then w 170 else w (16 + b) := fun b hb => by
    simp only [dyW]
    rw [if_neg (by omega), if_neg (by omega), if_neg (by omega), if_neg (by omega), if_neg (by omega), if_pos (by omega), show 16 + b - 16 = b by omega]
    by_cases q : w b = 1
    · rw [if_pos ⟨by have := hlaid b hb q; omega, q⟩, if_pos q]
    · rw [if_neg (fun z => q z.2), if_neg q]
  have e168 : dyW D w 168 = w 168 + 1 := rfl
  have e169 : dyW D w 169 = D 0 4 := rfl
  have e170 : dyW D w 170 = w 170 + D 0 5 := rfl
  refine ⟨fun b hb => ?_, fun b c hb hc => ?_, ?_, fun d y hd' hy => ?_⟩
  · have := h1 b hb
    rw [hlow b hb, hcel b hb, hmil b hb, e170]
    by_cases q : w b = 1
    · simp only [if_pos q]
      have := hlaid b hb q
      exact ⟨by simp, fun z => by simp at z, fun _ => trivial, fun _ => by omega, fun z => by omega⟩
    · simp only [if_neg q]
      have h9 := this.2.2.1 q
      refine ⟨this.1, fun z => (q z).elim, fun _ => h9, fun z => ?_, this.2.2.2.2⟩
      have := this.2.2.2.1 z
      omega
  · rw [hlow b hb]
    by_cases q : w b = 1
    · simp only [if_pos q]; intro z; omega
    · simp only [if_neg q]; intro z; exact (q z).elim
  · rw [e168, e169, e170]
    omega
  · rw [e168]
    have hj : dyW D w (24 + 12 * d + y) = if w 168 < 12 ∧ 24 + 12 * w 168 ≤ ((24 + 12 * d + y : Nat) : Int) ∧ ((24 + 12 * d + y : Nat) : Int) < 36 + 12 * w 168 then kdW D w (24 + 12 * d + y - 24 - 12 * (w 168).toNat) else w (24 + 12 * d + y) := by
      simp only [dyW]
      rw [if_neg (by omega), if_neg (by omega), if_neg (by omega), if_neg (by omega), if_neg (by omega), if_neg (by omega)]
    rw [hj]
    have h9 := h4 d y hd' hy
    by_cases hdd : (d : Int) = w 168
    · rw [if_pos (by omega)]
      refine ⟨fun _ => ?_, fun q => by omega⟩
      unfold kdW
      split
      · omega
      · rename_i hs
        have sr := std_rg w ((24 + 12 * d + y - 24 - 12 * (w 168).toNat : Nat) : Int) (D 0 0).toNat
        have := hD.2.1 (std w ((24 + 12 * d + y - 24 - 12 * (w 168).toNat : Nat) : Int) (D 0 0).toNat).toNat (by omega)
        omega
    · rw [if_neg (by omega)]
      exact ⟨fun q => h9.1 (by omega), fun q => h9.2 (by omega)⟩
theorem WW_wz (hD : WD D 61) : WW D (wz (D 0 4)) := by
  have hd := hD.1
  refine ⟨fun b hb => ?_, fun b c hb hc => ?_, ?_, fun d y hd' hy => ?_⟩
  · have e0 : wz (D 0 4) b = 0 := by unfold wz; rw [if_neg (by omega), if_neg (by omega)]
    have e1 : wz (D 0 4) (8 + b) = -1 := by unfold wz; rw [if_neg (by omega), if_pos (by omega)]
    rw [e0, e1]
    omega
  · have e0 : wz (D 0 4) b = 0 := by unfold wz; rw [if_neg (by omega), if_neg (by omega)]
    rw [e0]; intro q; omega
  · have e0 : wz (D 0 4) 168 = 0 := rfl
    have e1 : wz (D 0 4) 169 = D 0 4 := rfl
    have e2 : wz (D 0 4) 170 = 0 := rfl
    rw [e0, e1, e2]; omega
  · have e0 : wz (D 0 4) 168 = 0 := rfl
    have e1 : wz (D 0 4) (24 + 12 * d + y) = -1 := by unfold wz; rw [if_neg (by omega), if_pos (by omega)]
    rw [e0, e1]
    exact ⟨fun q => by omega, fun _ => rfl⟩
end WWF
