/-! WAY: days by days, and by wells -/
section WAY
/-- days for so many miles -/
def dF (s m : Nat) : Nat := (m + s - 1) / s
theorem dF_le {s m x : Nat} (hs : 1 ≤ s) : dF s m ≤ x ↔ m ≤ s * x := by
  unfold dF
  rw [Nat.div_le_iff_le_mul (by omega), Nat.mul_comm x s]
  omega
/-- the fewest days to a mile by the first wells (their fewest in fw) -/
def fT (s k : Nat) (sw : Nat → Nat) (fw : Nat → Int) (mile : Nat) : Nat → Int
  | 0 => if dF s mile ≤ k then (dF s mile : Nat) else -1
  | i + 1 => if fw i ≠ -1 ∧ sw i ≤ mile ∧ dF s (mile - sw i) ≤ k ∧ (fT s k sw fw mile i = -1 ∨ fw i + (dF s (mile - sw i) : Nat) < fT s k sw fw mile i) then fw i + (dF s (mile - sw i) : Nat) else fT s k sw fw mile i
variable {s k : Nat} {sw : Nat → Nat} {fw : Nat → Int} {mile : Nat}
theorem fT_con {fv : Nat → Int} : ∀ {n}, (∀ i, i < n → fw i = fv i) → fT s k sw fw mile n = fT s k sw fv mile n
  | 0, _ => rfl
  | n + 1, h => by rw [fT, fT, fT_con (fun i hi => h i (by omega)), h n (by omega)]
theorem fT_ge (hf : ∀ i, -1 ≤ fw i) : ∀ n, -1 ≤ fT s k sw fw mile n
  | 0 => by rw [fT]; split <;> omega
  | n + 1 => by
    have := fT_ge hf n
    have := hf n
    rw [fT]
    split <;> omega
theorem fT_at : ∀ n, fT s k sw fw mile n ≠ -1 → (fT s k sw fw mile n = (dF s mile : Nat) ∧ dF s mile ≤ k) ∨ ∃ i, i < n ∧ fw i ≠ -1 ∧ sw i ≤ mile ∧ dF s (mile - sw i) ≤ k ∧ fT s k sw fw mile n = fw i + (dF s (mile - sw i) : Nat)
  | 0, h => by
    rw [fT] at h ⊢
    by_cases h1 : dF s mile ≤ k
    · rw [if_pos h1]; exact Or.inl ⟨rfl, h1⟩
    · rw [if_neg h1] at h; exact (h rfl).elim
  | n + 1, h => by
    have ih := fT_at n
    rw [fT] at h ⊢
    by_cases h1 : fw n ≠ -1 ∧ sw n ≤ mile ∧ dF s (mile - sw n) ≤ k ∧ (fT s k sw fw mile n = -1 ∨ fw n + (dF s (mile - sw n) : Nat) < fT s k sw fw mile n)
    · rw [if_pos h1]
      exact Or.inr ⟨n, by omega, h1.1, h1.2.1, h1.2.2.1, rfl⟩
    · rw [if_neg h1] at h ⊢
      rcases ih h with h2 | ⟨i, h2, h3⟩
      · exact Or.inl h2
      · exact Or.inr ⟨i, by omega, h3⟩
theorem fT_lo (hf : ∀ i, -1 ≤ fw i) : ∀ n, (dF s mile ≤ k → fT s k sw fw mile n ≠ -1 ∧ fT s k sw fw mile n ≤ (dF s mile : Nat)) ∧ ∀ i, i < n → fw i ≠ -1 → sw i ≤ mile → dF s (mile - sw i) ≤ k → fT s k sw fw mile n ≠ -1 ∧ fT s k sw fw mile n ≤ fw i + (dF s (mile - sw i) : Nat)
  | 0 => by
    refine ⟨fun h => ?_, fun i hi => by omega⟩
    rw [fT, if_pos h]
    omega
  | n + 1 => by
    have ih := fT_lo hf n
    have hn := hf n
    rw [fT]
    by_cases h1 : fw n ≠ -1 ∧ sw n ≤ mile ∧ dF s (mile - sw n) ≤ k ∧ (fT s k sw fw mile n = -1 ∨ fw n + (dF s (mile - sw n) : Nat) < fT s k sw fw mile n)
    · rw [if_pos h1]
      refine ⟨fun h => ?_, fun i hi h2 h3 h4 => ?_⟩
      · have := ih.1 h
        omega
      · by_cases hin : i = n
        · subst hin; omega
        · have := ih.2 i (by omega) h2 h3 h4
          omega
    · rw [if_neg h1]
      refine ⟨ih.1, fun i hi h2 h3 h4 => ?_⟩
      by_cases hin : i = n
      · subst hin
        refine ⟨fun z => h1 ⟨h2, h3, h4, Or.inl z⟩, ?_⟩
        by_cases h5 : fT s k sw fw mile i ≤ fw i + (dF s (mile - sw i) : Nat)
        · exact h5
        · exact (h1 ⟨h2, h3, h4, Or.inr (by omega)⟩).elim
      · exact ih.2 i (by omega) h2 h3 h4
/-- the first n wells, each by those ahead of it -/
def fwT (s k : Nat) (sw : Nat → Nat) : Nat → Nat → Int
  | 0 => fun _ => -1
  | n + 1 => upw (fwT s k sw n) n (fT s k sw (fwT s k sw n) (sw n) n)
theorem fwT_ge : ∀ n i, -1 ≤ fwT s k sw n i
  | 0, i => by simp [fwT]
  | n + 1, i => by
    rw [fwT, upw_eq]
    split
    · exact fT_ge (fwT_ge n) n
    · exact fwT_ge n i
theorem fwT_old {n i : Nat} (h : i < n) : ∀ m, n ≤ m → fwT s k sw m i = fwT s k sw n i := by
  intro m hm
  induction hm with
  | refl => rfl
  | step hm ih =>
    rename_i m
    rw [fwT, upw_eq, if_neg (by have := Nat.le_of_lt_succ (Nat.lt_succ_of_le hm); omega), ih]
theorem fwT_is {n i : Nat} (h : i < n) : fwT s k sw n i = fT s k sw (fwT s k sw n) (sw i) i := by
  rw [fwT_old (n := i + 1) (by omega) n (by omega), fwT, upw_eq, if_pos rfl]
  refine fT_con (fun j hj => ?_)
  rw [fwT_old (n := i) hj n (by omega)]
/-- the reference's days: how much water is at a mile -/
def tnW (wl : Nat → Bool) (s k : Nat) (wt : Nat → Int) : Nat → Nat → Int
  | 0, _ => -1
  | j + 1, to => if 0 < wt j ∧ j ≤ to ∧ to ≤ j + s ∧ tnW wl s k wt j to < (if wl to = true then (k : Int) else wt j - 1) then (if wl to = true then (k : Int) else wt j - 1) else tnW wl s k wt j to
def wtW (wl : Nat → Bool) (s k : Nat) : Nat → Nat → Int
  | 0, m => if m = 0 then k else -1
  | d + 1, m => if wtW wl s k d m < tnW wl s k (wtW wl s k d) 251 m then tnW wl s k (wtW wl s k d) 251 m else wtW wl s k d m
variable {wl : Nat → Bool} {wt : Nat → Int}
theorem tn_ge : ∀ J to, -1 ≤ tnW wl s k wt J to
  | 0, _ => by simp [tnW]
  | J + 1, to => by
    have := tn_ge J to
    rw [tnW]
    split <;> omega
theorem tn_lo {j : Nat} (h1 : 0 < wt j) {to : Nat} (h2 : j ≤ to) (h3 : to ≤ j + s) : ∀ {J}, j < J → (if wl to = true then (k : Int) else wt j - 1) ≤ tnW wl s k wt J to
  | 0, h => by omega
  | J + 1, h => by
    by_cases hj : j = J
    · subst hj
      rw [tnW]
      by_cases h5 : tnW wl s k wt j to < (if wl to = true then (k : Int) else wt j - 1)
      · rw [if_pos (show 0 < wt j ∧ j ≤ to ∧ to ≤ j + s ∧ tnW wl s k wt j to < (if wl to = true then (k : Int) else wt j - 1) from ⟨h1, h2, h3, h5⟩)]
        exact Int.le_refl _
      · rw [if_neg (show ¬ (0 < wt j ∧ j ≤ to ∧ to ≤ j + s ∧ tnW wl s k wt j to < (if wl to = true then (k : Int) else wt j - 1)) from fun z => h5 z.2.2.2)]
        exact Int.not_lt.mp h5
    · have ih := tn_lo h1 h2 h3 (J := J) (by omega)
      rw [tnW]
      by_cases h5 : 0 < wt J ∧ J ≤ to ∧ to ≤ J + s ∧ tnW wl s k wt J to < (if wl to = true then (k : Int) else wt J - 1)
      · rw [if_pos h5]
        exact Int.le_trans ih (Int.le_of_lt h5.2.2.2)
      · rw [if_neg h5]
        exact ih
theorem tn_at {to : Nat} : ∀ {J}, tnW wl s k wt J to ≠ -1 → ∃ j, j < J ∧ 0 < wt j ∧ j ≤ to ∧ to ≤ j + s ∧ tnW wl s k wt J to = (if wl to = true then (k : Int) else wt j - 1)
  | 0, h => by simp [tnW] at h
  | J + 1, h => by
    rw [tnW] at h ⊢
    by_cases h1 : 0 < wt J ∧ J ≤ to ∧ to ≤ J + s ∧ tnW wl s k wt J to < (if wl to = true then (k : Int) else wt J - 1)
    · rw [if_pos h1]
      exact ⟨J, by omega, h1.1, h1.2.1, h1.2.2.1, rfl⟩
    · rw [if_neg h1] at h ⊢
      obtain ⟨j, h2, h3⟩ := tn_at h
      exact ⟨j, by omega, h3⟩
theorem wt_mono (d m : Nat) : wtW wl s k d m ≤ wtW wl s k (d + 1) m := by
  rw [wtW]
  split <;> omega
theorem wt_le {d e : Nat} (h : d ≤ e) (m : Nat) : wtW wl s k d m ≤ wtW wl s k e m := by
  induction h with
  | refl => exact Int.le_refl _
  | step _ ih => exact Int.le_trans ih (wt_mono _ _)
theorem wt_ge (d m : Nat) : -1 ≤ wtW wl s k d m := by
  have h0 : -1 ≤ wtW wl s k 0 m := by rw [wtW]; split <;> omega
  exact Int.le_trans h0 (wt_le (by omega) m)
/-- a stop: the start, or a well, and the fewest days to it -/
def stp (s k : Nat) (sw : Nat → Nat) (n : Nat) (u f : Nat) : Prop := (u = 0 ∧ f = 0) ∨ ∃ i, i < n ∧ sw i = u ∧ fwT s k sw n i = f
section
variable {n : Nat} (hs : 1 ≤ s) (hk : 1 ≤ k) (hso : ∀ i j, i < j → j < n → sw i ≤ sw j) (h1 : ∀ i, i < n → 1 ≤ sw i ∧ sw i ≤ 250) (hwl : ∀ m, wl m = true ↔ m = 0 ∨ ∃ i, i < n ∧ sw i = m)
theorem way_up (hs : 1 ≤ s) (hk : 1 ≤ k) (hso : ∀ i j, i < j → j < n → sw i ≤ sw j) (hwl : ∀ m, wl m = true ↔ m = 0 ∨ ∃ i, i < n ∧ sw i = m) : ∀ d m, 0 ≤ wtW wl s k d m → wtW wl s k d m ≤ k ∧ ∃ u f, stp s k sw n u f ∧ u ≤ m ∧ (f : Int) + (k - wtW wl s k d m) ≤ d ∧ ((m - u : Nat) : Int) ≤ s * (k - wtW wl s k d m) := by
  intro d
  induction d with
  | zero =>
    intro m h
    have e : wtW wl s k 0 m = if m = 0 then (k : Int) else -1 := rfl
    rw [e] at h ⊢
    by_cases hm : m = 0
    · rw [if_pos hm] at h ⊢
      refine ⟨by omega, 0, 0, Or.inl ⟨rfl, rfl⟩, by omega, by omega, ?_⟩
      rw [Int.sub_self, Int.mul_zero]
      omega
    · rw [if_neg hm] at h
      omega
  | succ d ih =>
    intro m h
    have e : wtW wl s k (d + 1) m = if wtW wl s k d m < tnW wl s k (wtW wl s k d) 251 m then tnW wl s k (wtW wl s k d) 251 m else wtW wl s k d m := rfl
    by_cases hc : wtW wl s k d m < tnW wl s k (wtW wl s k d) 251 m
    · rw [e, if_pos hc] at h ⊢
      obtain ⟨j, g1, g2, g3, g4, g5⟩ := tn_at (wl := wl) (s := s) (k := k) (wt := wtW wl s k d) (to := m) (J := 251) (by omega)
      obtain ⟨i1, u, f, i2, i3, i4, i5⟩ := ih j (by omega)
      rw [g5]
      generalize wtW wl s k d j = wj at *
      obtain ⟨x, hx⟩ := Int.eq_ofNat_of_zero_le (show 0 ≤ (k : Int) - wj by omega)
      rw [hx] at i4 i5
      have hxk : x + 1 ≤ k := by omega
      have i5' : j - u ≤ s * x := by
        have : ((s * x : Nat) : Int) = (s : Int) * x := Int.natCast_mul s x
        omega
      have hmu : m - u ≤ s * (x + 1) := by rw [Nat.mul_add, Nat.mul_one]; omega
      by_cases hw : wl m = true
      · rw [if_pos hw]
        refine ⟨by omega, ?_⟩
        rw [Int.sub_self, Int.mul_zero]
        rcases (hwl m).mp hw with hm0 | ⟨i', hi', hsi'⟩
        · exact ⟨0, 0, Or.inl ⟨rfl, rfl⟩, by omega, by omega, by omega⟩
        · by_cases hum : u = m
          · exact ⟨u, f, i2, by omega, by omega, by omega⟩
          · have hge := fwT_ge (s := s) (k := k) (sw := sw) n
            have hdf : dF s (m - u) ≤ x + 1 := (dF_le hs).mpr hmu
            have hlo := fT_lo (s := s) (k := k) (sw := sw) (fw := fwT s k sw n) (mile := sw i') hge i'
            rw [← fwT_is hi', hsi'] at hlo
            have hres : ∃ f', fwT s k sw n i' = (f' : Nat) ∧ (f' : Int) ≤ d + 1 := by
              rcases i2 with ⟨rfl, rfl⟩ | ⟨i, hi, hsi, hfi⟩
              · rw [Nat.sub_zero] at hdf
                have := hlo.1 (by omega)
                have hg := hge i'
                exact ⟨(fwT s k sw n i').toNat, by omega, by omega⟩
              · have hii : i < i' := by
                  by_cases hlt : i < i'
                  · exact hlt
                  · by_cases heq : i = i'
                    · subst heq; omega
                    · have := hso i' i (by omega) hi
                      omega
                have := hlo.2 i hii (by omega) (by omega) (by rw [hsi]; omega)
                rw [hsi, hfi] at this
                have hg := hge i'
                exact ⟨(fwT s k sw n i').toNat, by omega, by omega⟩
            obtain ⟨f', hf', hf2⟩ := hres
            exact ⟨m, f', Or.inr ⟨i', hi', hsi', hf'⟩, by omega, by omega, by omega⟩
      · rw [if_neg hw]
        refine ⟨by omega, u, f, i2, by omega, by omega, ?_⟩
        have : (k : Int) - (wj - 1) = ((x + 1 : Nat) : Int) := by omega
        rw [this, ← Int.natCast_mul]
        omega
    · rw [e, if_neg hc] at h ⊢
      obtain ⟨i1, u, f, i2, i3, i4, i5⟩ := ih m h
      exact ⟨i1, u, f, i2, i3, by omega, i5⟩
theorem way_go (hs : 1 ≤ s) {u f : Nat} (h0 : (k : Int) ≤ wtW wl s k f u) (hu : u ≤ 250) : ∀ j, j ≤ k → ∀ m, u ≤ m → m ≤ u + s * j → m ≤ 250 → ((k - j : Nat) : Int) ≤ wtW wl s k (f + j) m ∧ (0 < j → wl m = true → (m : Nat) ≠ u → (k : Int) ≤ wtW wl s k (f + j) m) := by
  intro j
  induction j with
  | zero =>
    intro _ m h1 h2 h3
    obtain rfl : m = u := by omega
    exact ⟨h0, fun z => by omega⟩
  | succ j ih =>
    intro hj m h1 h2 h3
    have hex : ∃ m0, u ≤ m0 ∧ m0 ≤ u + s * j ∧ m0 ≤ m ∧ m ≤ m0 + s := by
      rw [Nat.mul_add, Nat.mul_one] at h2
      by_cases hm : m ≤ u + s * j
      · exact ⟨m, h1, hm, by omega, by omega⟩
      · exact ⟨u + s * j, by omega, by omega, by omega, by omega⟩
    obtain ⟨m0, a1, a2, a3, a4⟩ := hex
    have ih0 := (ih (by omega) m0 a1 a2 (by omega)).1
    have hlo := tn_lo (wl := wl) (s := s) (k := k) (wt := wtW wl s k (f + j)) (j := m0) (to := m) (by omega) a3 a4 (J := 251) (by omega)
    have e : wtW wl s k (f + (j + 1)) m = if wtW wl s k (f + j) m < tnW wl s k (wtW wl s k (f + j)) 251 m then tnW wl s k (wtW wl s k (f + j)) 251 m else wtW wl s k (f + j) m := rfl
    have hge : tnW wl s k (wtW wl s k (f + j)) 251 m ≤ wtW wl s k (f + (j + 1)) m := by rw [e]; split <;> omega
    constructor
    · split at hlo <;> omega
    · intro _ hw _
      rw [if_pos hw] at hlo
      omega
theorem way_lo (hs : 1 ≤ s) (hk : 1 ≤ k) (hso : ∀ i j, i < j → j < n → sw i ≤ sw j) (h1 : ∀ i, i < n → 1 ≤ sw i ∧ sw i ≤ 250) (hwl : ∀ m, wl m = true ↔ m = 0 ∨ ∃ i, i < n ∧ sw i = m) : ∀ (b i f : Nat), i < b → i < n → fwT s k sw n i = f → (k : Int) ≤ wtW wl s k f (sw i) := by
  intro b
  induction b with
  | zero => intro i f h; omega
  | succ b ih =>
    intro i f hib hi hf
    have hw : wl (sw i) = true := (hwl _).mpr (Or.inr ⟨i, hi, rfl⟩)
    have hsi := h1 i hi
    have hat := fT_at (s := s) (k := k) (sw := sw) (fw := fwT s k sw n) (mile := sw i) i
    rw [← fwT_is hi, hf] at hat
    have h00 : (k : Int) ≤ wtW wl s k 0 0 := by rw [wtW, if_pos rfl]; omega
    rcases hat (by omega) with ⟨g1, g2⟩ | ⟨j, g1, g2, g3, g4, g5⟩
    · have hd0 : 0 < dF s (sw i) := by
        by_cases h : 0 < dF s (sw i)
        · exact h
        · have := (dF_le (m := sw i) (x := 0) hs).mp (by omega)
          omega
      have hgo := (way_go (wl := wl) hs h00 (by omega) (dF s (sw i)) g2 (sw i) (by omega) (by rw [Nat.zero_add]; exact (dF_le hs).mp (Nat.le_refl _)) hsi.2).2 hd0 hw (by omega)
      rw [Nat.zero_add] at hgo
      rw [show f = dF s (sw i) by omega]
      exact hgo
    · have hge := fwT_ge (s := s) (k := k) (sw := sw) n j
      obtain ⟨fj, hfj⟩ := Int.eq_ofNat_of_zero_le (show 0 ≤ fwT s k sw n j by omega)
      have hj := ih j fj (by omega) (by omega) hfj
      by_cases hd0 : dF s (sw i - sw j) = 0
      · have := (dF_le (m := sw i - sw j) (x := 0) hs).mp (by omega)
        rw [show sw i = sw j by omega, show f = fj by omega]
        exact hj
      · have hgo := (way_go (wl := wl) hs hj (h1 j (by omega)).2 (dF s (sw i - sw j)) g4 (sw i) g3 (by have := (dF_le (m := sw i - sw j) hs).mp (Nat.le_refl _); omega) hsi.2).2 (by omega) hw (by
          intro z
          rw [z, Nat.sub_self] at hd0
          exact hd0 (Nat.le_antisymm ((dF_le hs).mpr (by omega)) (Nat.zero_le _)))
        rw [show f = fj + dF s (sw i - sw j) by omega]
        exact hgo
/-- both tell the same -/
theorem way_eq (hs : 1 ≤ s) (hk : 1 ≤ k) (hso : ∀ i j, i < j → j < n → sw i ≤ sw j) (h1 : ∀ i, i < n → 1 ≤ sw i ∧ sw i ≤ 250) (hwl : ∀ m, wl m = true ↔ m = 0 ∨ ∃ i, i < n ∧ sw i = m) (hm : mile ≤ 250) (d : Nat) : wtW wl s k d mile ≠ -1 ↔ fT s k sw (fwT s k sw n) mile n ≠ -1 ∧ fT s k sw (fwT s k sw n) mile n ≤ d := by
  have hge := fwT_ge (s := s) (k := k) (sw := sw) n
  have hlo := fT_lo (s := s) (k := k) (sw := sw) (fw := fwT s k sw n) (mile := mile) hge n
  constructor
  · intro h
    have hw := wt_ge (wl := wl) (s := s) (k := k) d mile
    obtain ⟨a1, u, f, a2, a3, a4, a5⟩ := way_up hs hk hso hwl d mile (by omega)
    generalize wtW wl s k d mile = wj at *
    obtain ⟨x, hx⟩ := Int.eq_ofNat_of_zero_le (show 0 ≤ (k : Int) - wj by omega)
    rw [hx] at a4 a5
    have a5' : mile - u ≤ s * x := by
      have : ((s * x : Nat) : Int) = (s : Int) * x := Int.natCast_mul s x
      omega
    have hdf : dF s (mile - u) ≤ x := (dF_le hs).mpr a5'
    rcases a2 with ⟨rfl, rfl⟩ | ⟨i, hi, hsi, hfi⟩
    · rw [Nat.sub_zero] at hdf
      have := hlo.1 (by omega)
      exact ⟨this.1, by omega⟩
    · have := hlo.2 i hi (by omega) (by omega) (by rw [hsi]; omega)
      rw [hsi, hfi] at this
      exact ⟨this.1, by omega⟩
  · rintro ⟨g1, g2⟩ hbad
    have h00 : (k : Int) ≤ wtW wl s k 0 0 := by rw [wtW, if_pos rfl]; omega
    rcases fT_at (s := s) (k := k) (sw := sw) (fw := fwT s k sw n) (mile := mile) n g1 with ⟨q1, q2⟩ | ⟨j, q1, q2, q3, q4, q5⟩
    · have hgo := (way_go (wl := wl) hs h00 (by omega) (dF s mile) q2 mile (by omega) (by rw [Nat.zero_add]; exact (dF_le hs).mp (Nat.le_refl _)) hm).1
      rw [Nat.zero_add] at hgo
      have := wt_le (wl := wl) (s := s) (k := k) (show dF s mile ≤ d by omega) mile
      omega
    · have hgj := hge j
      obtain ⟨fj, hfj⟩ := Int.eq_ofNat_of_zero_le (show 0 ≤ fwT s k sw n j by omega)
      have hj := way_lo (wl := wl) hs hk hso h1 hwl n j fj q1 q1 hfj
      have hgo := (way_go (wl := wl) hs hj (h1 j q1).2 (dF s (mile - sw j)) q4 mile q3 (by have := (dF_le (m := mile - sw j) hs).mp (Nat.le_refl _); omega) hm).1
      have := wt_le (wl := wl) (s := s) (k := k) (show fj + dF s (mile - sw j) ≤ d by omega) mile
      omega
end
/-- the fewest days stay few -/
theorem fT_up (hk : k ≤ 40) {n : Nat} (hf : ∀ i, i < n → fw i ≤ 40 * ((i : Int) + 1)) : ∀ m, m ≤ n → fT s k sw fw mile m ≤ 40 * ((m : Int) + 1)
  | 0, _ => by rw [fT]; split <;> omega
  | m + 1, h => by
    have ih := fT_up hk hf m (by omega)
    have := hf m (by omega)
    rw [fT]
    split
    · rename_i h1; have := h1.2.2.1; omega
    · omega
theorem fwT_up (hk : k ≤ 40) : ∀ n i, i < n → fwT s k sw n i ≤ 40 * ((i : Int) + 1)
  | 0, i, h => by omega
  | n + 1, i, h => by
    rw [fwT, upw_eq]
    split
    · rename_i hi
      subst hi
      exact fT_up hk (fwT_up hk i) i (Nat.le_refl _)
    · exact fwT_up hk n i (by omega)
end WAY
