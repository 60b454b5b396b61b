/-! What a WORK's steps always keep -/
section WKR
variable {D : jD} {cd : lC} {f : Int}
theorem run_fin (s : jWs) : runW D cd f wFin s = s := rfl
theorem run_one (k a x : Nat) (r : Wk) (s : jWs) : runW D cd f (wOne k a x r) s = if 200 ≤ s.2.1 then s else runW D cd f r (stpW D cd f k a x s) := rfl
theorem run_rep (n : Nat) (b r : Wk) (s : jWs) : runW D cd f (wRep n b r) s = if 200 ≤ s.2.1 then s else runW D cd f r (itr (runW D cd f b) n (s.1, s.2.1 + 1, s.2.2.1, s.2.2.2)) := rfl
theorem run_stop {k : Wk} (hk : okW D k) : ∀ {s : jWs}, 200 ≤ s.2.1 → runW D cd f k s = s := by
  refine wk_ind (D := D) (P := fun k => ∀ {s : jWs}, 200 ≤ s.2.1 → runW D cd f k s = s) ?_ ?_ ?_ k hk
  · intro s _
    rfl
  · intro k a x r _ s h
    rw [run_one, if_pos h]
  · intro n b r _ _ s h
    rw [run_rep, if_pos h]
theorem itr_stop {k : Wk} (hk : okW D k) : ∀ (n : Nat) {s : jWs}, 200 ≤ s.2.1 → itr (runW D cd f k) n s = s
  | 0, s, _ => rfl
  | n + 1, s, h => by rw [itr, run_stop hk h, itr_stop hk n h]
/-- what always holds of it -/
def inW (D : jD) (s : jWs) : Prop := WW D s.1 ∧ s.2.1 ≤ 200 ∧ s.2.2.1 + s.2.2.2 ≤ s.2.1
theorem itr_in {g : jWs → jWs} (h : ∀ s, inW D s → inW D (g s)) : ∀ (n : Nat) (s : jWs), inW D s → inW D (itr g n s)
  | 0, s, hs => hs
  | n + 1, s, hs => itr_in h n (g s) (h s hs)
theorem stp_in {k a x : Nat} {s : jWs} (hD : WD D 61) (hs : inW D s) (hb : s.2.1 < 200) (ha : k = 3 ∨ (a : Int) < D 0 0) (hx : k = 0 → x < 12) : inW D (stpW D cd f k a x s) := by
  obtain ⟨h1, h2, h3⟩ := hs
  refine ⟨WW_go hD h1 ha hx, ?_, ?_⟩
  · show s.2.1 + 1 ≤ 200
    omega
  · simp only [stpW]
    split <;> omega
theorem run_in (hD : WD D 61) {k : Wk} (hk : okW D k) : ∀ s : jWs, inW D s → inW D (runW D cd f k s) := by
  have H := wk_ind (D := D) (P := fun k => okW D k → ∀ s : jWs, inW D s → inW D (runW D cd f k s)) ?_ ?_ ?_ k hk
  · exact H hk
  · intro _ s hs
    exact hs
  · intro k a x r ih h s hs
    rw [run_one]
    split
    · exact hs
    · exact ih h.2.2.2 _ (stp_in hD hs (by omega) h.2.1 h.2.2.1)
  · intro n b r ihb ihr h s hs
    rw [run_rep]
    split
    · exact hs
    · obtain ⟨h1, h2, h3⟩ := hs
      exact ihr h.2.2 _ (itr_in (fun s hs => ihb h.2.1 s hs) n _ ⟨h1, by show s.2.1 + 1 ≤ 200; omega, by show s.2.2.1 + s.2.2.2 ≤ s.2.1 + 1; omega⟩)
theorem itr_s (g : jWs → jWs) : ∀ (n : Nat) (s : jWs), itr g (n + 1) s = g (itr g n s)
  | 0, s => rfl
  | n + 1, s => by rw [itr, itr_s g n (g s)]; rfl
end WKR
