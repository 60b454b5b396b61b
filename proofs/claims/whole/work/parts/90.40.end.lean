/-! The claim -/
theorem pure_ok (sc : Nat × (Nat → Int32)) (h : sc.1 ≤ 3584) : PureOk sc := by
  obtain ⟨r, τ, ⟨-, n, hr⟩, rfl, h1, h2⟩ := lw_ct (sc := sc) h
  exact ⟨n, j_h τ, hr, by rw [j_h_len]; exact h1, by rw [szH_is]; exact h2⟩
theorem i_vc : Claimed_1_1 ∧ Claimed_1_2 := i_vc_open g_all_ok g_law_ok pure_ok
