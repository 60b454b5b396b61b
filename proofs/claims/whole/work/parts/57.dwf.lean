/-! Each clause keeps the numbers as they should be -/
section DWF
theorem WD_mono {D : jD} {c c' : Nat} (h : WD D c) (hc : c ≤ c') : WD D c' := ⟨h.1, h.2.1, fun j => ⟨(h.2.2.1 j).1, Int.le_trans (h.2.2.1 j).2 (by omega)⟩, h.2.2.2⟩
theorem WD_wag {D : jD} {c h w k : Nat} (hW : WD D c) (h0 : ¬ 8 ≤ D 0 0) (hh : 1 ≤ (h : Int) ∧ (h : Int) ≤ 6) (hw : 1 ≤ (w : Int) ∧ (w : Int) ≤ 9) (hk : (k : Int) ≤ 5) : WD (du (du (du (du (du D 1 (D 0 0).toNat h) 2 (D 0 0).toNat w) 3 (D 0 0).toNat k) 4 (D 0 0).toNat 0) 0 0 (D 0 0 + 1)) c := by
  obtain ⟨g1, g2, g3, g4, g5, g6, g7, g8, g9⟩ := hW
  refine ⟨?_, ?_, ?_, ?_, ?_, ?_, ?_, ?_, ?_⟩ <;> simp only [du_eq, Nat.reduceEqDiff, false_and, true_and, if_false, if_true] <;> try assumption
  · omega
  · intro a ha
    by_cases hn : a = (D 0 0).toNat
    · subst hn
      simp only [if_true]
      have := Nat.two_pow_pos (D 0 0).toNat
      simp at *
      omega
    · simp only [if_neg hn]
      have := g2 a (by omega)
      omega
  all_goals simp at *
  all_goals assumption
theorem WD_s {D : jD} {c i : Nat} {z : Int} (hW : WD D c) (hi : (i = 4 ∧ 1 ≤ z ∧ z ≤ 24) ∨ (i = 5 ∧ 1 ≤ z ∧ z ≤ 20) ∨ (i = 6 ∧ 0 ≤ z ∧ z ≤ 16)) : WD (du D 0 i z) c := by
  obtain ⟨g1, g2, g3, g4, g5, g6, g7, g8, g9⟩ := hW
  rcases hi with ⟨rfl, hz⟩ | ⟨rfl, hz⟩ | ⟨rfl, hz⟩ <;> refine ⟨?_, ?_, ?_, ?_, ?_, ?_, ?_, ?_, ?_⟩ <;> simp [du_eq] <;> first | omega | assumption
theorem WD_gr {D : jD} {c x g : Nat} (hW : WD D c) (hg : (g : Int) ≤ 9) : WD (du D 6 x g) c := by
  obtain ⟨g1, g2, g3, g4, g5, g6, g7, g8, g9⟩ := hW
  refine ⟨?_, ?_, ?_, ?_, ?_, ?_, ?_, ?_, ?_⟩ <;> simp [du_eq] <;> first | omega | assumption | skip
  intro y
  have := g6 y
  split <;> omega
theorem WD_tie {D : jD} {c x y n : Nat} (hW : WD D c) (hx : x < 8) (hy : y < 8) (hxy : ¬ x = y) (hn : (n : Int) ≤ 9) : WD (du (du D 5 (8 * x + y) (D 5 (8 * x + y) + n)) 5 (8 * y + x) (D 5 (8 * y + x) + n)) (c + 1) := by
  obtain ⟨g1, g2, g3, g4, g5, g6, g7, g8, g9⟩ := hW
  refine ⟨?_, ?_, ?_, ?_, ?_, ?_, ?_, ?_, ?_⟩ <;> simp [du_eq] <;> first | omega | assumption | skip
  · intro j
    have := g3 j
    have := g3 (8 * x + y)
    have := g3 (8 * y + x)
    split
    · omega
    · split <;> omega
  · intro u v hu hv
    have h1 := g4 u v hu hv
    have h2 := g4 x y hx hy
    by_cases e1 : u = x ∧ v = y
    · obtain ⟨rfl, rfl⟩ := e1
      rw [if_neg (by omega), if_pos rfl, if_pos rfl]
      omega
    · by_cases e2 : u = y ∧ v = x
      · obtain ⟨rfl, rfl⟩ := e2
        rw [if_pos rfl, if_neg (by omega), if_pos rfl]
        omega
      · rw [if_neg (by omega), if_neg (by omega), if_neg (by omega), if_neg (by omega)]
        exact h1
  · intro u
    rw [if_neg (by omega), if_neg (by omega)]
    exact g5 u
theorem WD_need {D : jD} {c x y : Nat} (hW : WD D c) (hy : (y : Int) ≤ x - 1) (hx : (x : Int) ≤ D 0 0 - 1) : WD (du D 4 x (((D 4 x).toNat ||| 2 ^ y : Nat) : Int)) c := by
  obtain ⟨g1, g2, g3, g4, g5, g6, g7, g8, g9⟩ := hW
  refine ⟨?_, ?_, ?_, ?_, ?_, ?_, ?_, ?_, ?_⟩ <;> simp [du_eq] <;> first | omega | assumption | skip
  intro a ha
  have h1 := g2 a ha
  by_cases h : a = x
  · subst h
    rw [if_pos rfl]
    have h2 : (2 : Nat) ^ y < 2 ^ a := Nat.pow_lt_pow_right (by decide) (by omega)
    have h3 := Nat.or_lt_two_pow h1.2.2.2.2.2.2.2 h2
    refine ⟨by omega, by omega, by omega, by omega, by omega, by omega, by omega, ?_⟩
    rw [Int.toNat_natCast]
    exact h3
  · rw [if_neg h]
    exact h1
theorem WD_gang {D : jD} {c x : Nat} (hW : WD D c) (h0 : ¬ 4 ≤ D 0 1) (hx : 1 ≤ (x : Int) ∧ (x : Int) ≤ 3) : WD (du (du D 7 (D 0 1).toNat x) 0 1 (D 0 1 + 1)) c := by
  obtain ⟨g1, g2, g3, g4, g5, g6, g7, g8, g9⟩ := hW
  refine ⟨?_, ?_, ?_, ?_, ?_, ?_, ?_, ?_, ?_⟩ <;> simp [du_eq] <;> first | omega | assumption | skip
  intro g hg
  by_cases h : g = (D 0 1).toNat
  · rw [if_pos h]; omega
  · rw [if_neg h]; exact g7 g (by omega)
theorem WD_well {D : jD} {c x : Nat} (hW : WD D c) (h0 : ¬ 8 ≤ D 0 3) (hx : 1 ≤ (x : Int) ∧ (x : Int) ≤ 200) : WD (du (du D 9 (D 0 3).toNat x) 0 3 (D 0 3 + 1)) c := by
  obtain ⟨g1, g2, g3, g4, g5, g6, g7, g8, g9⟩ := hW
  refine ⟨?_, ?_, ?_, ?_, ?_, ?_, ?_, ?_, ?_⟩ <;> simp [du_eq] <;> first | omega | assumption | skip
  intro g hg
  by_cases h : g = (D 0 3).toNat
  · rw [if_pos h]; omega
  · rw [if_neg h]; exact g9 g (by omega)
theorem WD_vote {D : jD} {c x y z : Nat} (hW : WD D c) (h0 : ¬ 9 ≤ D 0 2) (hx : (x : Int) ≤ 2) (hy : (y : Int) ≤ 2) (hz : (z : Int) ≤ 2) (h1 : ¬ y = x) (h2 : ¬ (z = x ∨ z = y)) : WD (du (du (du (du D 8 (3 * (D 0 2).toNat) x) 8 (3 * (D 0 2).toNat + 1) y) 8 (3 * (D 0 2).toNat + 2) z) 0 2 (D 0 2 + 1)) c := by
  obtain ⟨g1, g2, g3, g4, g5, g6, g7, g8, g9⟩ := hW
  refine ⟨?_, ?_, ?_, ?_, ?_, ?_, ?_, ?_, ?_⟩ <;> simp [du_eq] <;> first | omega | assumption | skip
  intro v hv
  by_cases h : v = (D 0 2).toNat
  · subst h
    simp
    omega
  · have := g8 v (by omega)
    rw [if_neg (by omega), if_neg (by omega), if_neg (by omega), if_neg (by omega), if_neg (by omega), if_neg (by omega), if_neg (by omega), if_neg (by omega), if_neg (by omega)]
    omega
theorem pcl_WD {b : Nat → Int} {e : Nat} {D D' : jD} {w s0 a a' c : Nat} (hW : WD D c) (h : pcl b e D w s0 a = .ok (D', a')) : WD D' (c + 1) := by
  have hm : ∀ {E : jD}, WD E c → WD E (c + 1) := fun h => WD_mono h (Nat.le_succ _)
  have hw := hW.1
  unfold pcl at h
  split at h
  · split at h
    · cases h
    · rename_i h0
      obtain ⟨x, a1, x1, x2, h⟩ := pN_inv h
      obtain ⟨y, a2, y1, y2, h⟩ := pN_inv h
      obtain ⟨z, a3, z1, z2, h⟩ := pN_inv h
      cases h
      exact hm (WD_wag hW h0 ⟨x1, x2⟩ ⟨y1, y2⟩ z2)
  · obtain ⟨x, a1, x1, x2, h⟩ := pN_inv h
    obtain ⟨y, a2, y1, y2, h⟩ := pN_inv h
    split at h
    · cases h
    · rename_i h0
      obtain ⟨z, a3, z1, z2, h⟩ := pN_inv h
      cases h
      exact WD_tie hW (by omega) (by omega) h0 z2
  · obtain ⟨x, a1, x1, x2, h⟩ := pN_inv h
    obtain ⟨y, a2, y1, y2, h⟩ := pN_inv h
    cases h
    exact hm (WD_need hW y2 x2)
  · obtain ⟨x, a1, x1, x2, h⟩ := pN_inv h
    obtain ⟨y, a2, y1, y2, h⟩ := pN_inv h
    cases h
    exact hm (WD_gr hW y2)
  · obtain ⟨x, a1, x1, x2, h⟩ := pN_inv h
    cases h
    exact hm (WD_s hW (Or.inl ⟨rfl, x1, x2⟩))
  · obtain ⟨x, a1, x1, x2, h⟩ := pN_inv h
    cases h
    exact hm (WD_s hW (Or.inr (Or.inl ⟨rfl, x1, x2⟩)))
  · split at h
    · cases h
    · rename_i h0
      obtain ⟨x, a1, x1, x2, h⟩ := pN_inv h
      cases h
      exact hm (WD_gang hW h0 ⟨x1, x2⟩)
  · split at h
    · cases h
    · rename_i h0
      obtain ⟨x, a1, x1, x2, h⟩ := pN_inv h
      obtain ⟨y, a2, y1, y2, h⟩ := pN_inv h
      split at h
      · cases h
      · rename_i h3
        obtain ⟨z, a3, z1, z2, h⟩ := pN_inv h
        split at h
        · cases h
        · rename_i h4
          cases h
          exact hm (WD_vote hW h0 x2 y2 z2 h3 h4)
  · split at h
    · cases h
    · rename_i h0
      obtain ⟨x, a1, x1, x2, h⟩ := pN_inv h
      cases h
      exact hm (WD_well hW h0 ⟨x1, x2⟩)
  · obtain ⟨x, a1, x1, x2, h⟩ := pN_inv h
    cases h
    exact hm (WD_s hW (Or.inr (Or.inr ⟨rfl, x1, x2⟩)))
end DWF
