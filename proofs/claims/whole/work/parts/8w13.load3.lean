/-! LOAD: both find the same row -/
section LOAD3
variable {D : jD} {N : Nat}
theorem Fo_len (hN : N ≤ 8) : ∀ {f : List Nat} {s : Nat}, s < 2 ^ N → Fo D N s f → pc8 s + f.length = pc8 (2 ^ N - 1)
  | [], s, _, h => by
    have : s = 2 ^ N - 1 := h
    rw [this]; rfl
  | a :: f, s, hs, h => by
    have hN2 : (2 : Nat) ^ N ≤ 2 ^ 8 := Nat.pow_le_pow_right (by decide) hN
    have ih := Fo_len hN (adB_lN hs h.1) h.2.2
    rw [pc8_ad (by omega) (by have := h.1; omega) (mf_bit h.2.1)] at ih
    rw [List.length_cons]
    omega
theorem fo_ge (hN : N ≤ 8) : ∀ {f : List Nat} {s : Nat}, s < 2 ^ N → Fo D N s f → bhS D N s ≤ fo D (pc8 s) f
  | [], s, _, h => by
    have : s = 2 ^ N - 1 := h
    rw [this, bhS_all]; exact Nat.zero_le _
  | a :: f, s, hs, h => by
    have hN2 : (2 : Nat) ^ N ≤ 2 ^ 8 := Nat.pow_le_pow_right (by decide) hN
    have hg := adB_gt (mf_bit h.2.1)
    have hl := adB_lN (N := N) hs h.1
    have ih := fo_ge hN hl h.2.2
    rw [pc8_ad (by omega) (by have := h.1; omega) (mf_bit h.2.1)] at ih
    have hlo := bhO_lo (tb := bhS D N) h.2.1 (n := N) h.1
    rw [← bhS_is (by omega)] at hlo
    rw [fo]
    omega
theorem co_lt : ∀ {f : List Nat} {k : Nat}, k + f.length ≤ 8 → (∀ a ∈ f, a < 8) → co k f < 8 ^ (8 - k)
  | [], k, _, _ => Nat.pow_pos (by decide)
  | a :: f, k, h, ha => by
    simp only [List.length_cons] at h
    have ih := co_lt (f := f) (k := k + 1) (by omega) (fun b hb => ha b (by simp [hb]))
    have h1 := ha a (by simp)
    rw [co, show 8 - k = (7 - k) + 1 by omega, Nat.pow_succ]
    rw [show 8 - (k + 1) = 7 - k by omega] at ih
    have h2 : a * 8 ^ (7 - k) ≤ 7 * 8 ^ (7 - k) := Nat.mul_le_mul_right _ (by omega)
    omega
theorem Fo_mem (hN : N ≤ 8) : ∀ {f : List Nat} {s : Nat}, Fo D N s f → ∀ a ∈ f, a < 8
  | [], _, _, a, h => by cases h
  | b :: r, s, h, a, hm => by
    rcases List.mem_cons.mp hm with rfl | hm
    · have := h.1; omega
    · exact Fo_mem hN h.2.2 a hm
theorem pc8_all (hN : N ≤ 8) : pc8 (2 ^ N - 1) = N := by
  rcases (show N = 0 ∨ N = 1 ∨ N = 2 ∨ N = 3 ∨ N = 4 ∨ N = 5 ∨ N = 6 ∨ N = 7 ∨ N = 8 by omega) with rfl | rfl | rfl | rfl | rfl | rfl | rfl | rfl | rfl <;> decide
/-- the reference's row: it is one, its sum is least, and of alike ones it is the first -/
theorem gl_min (hN : N ≤ 8) (hw : ∀ a, wgL D a ≤ 9) (hnd : ∀ a, a < N → ndL D a < 2 ^ a) : ∀ (n s : Nat), s < 2 ^ N → pc8 s + n = N → Fo D N s (glL D N n s) ∧ fo D (pc8 s) (glL D N n s) = bhS D N s ∧ ∀ f, Fo D N s f → fo D (pc8 s) f = bhS D N s → co (pc8 s) (glL D N n s) ≤ co (pc8 s) f := by
  intro n
  have hN2 : (2 : Nat) ^ N ≤ 2 ^ 8 := Nat.pow_le_pow_right (by decide) hN
  have hpa := pc8_all hN
  induction n with
  | zero =>
    intro s hs hk
    have hsa : s = 2 ^ N - 1 := by
      by_cases h : s = 2 ^ N - 1
      · exact h
      · obtain ⟨a, ha, hm⟩ := mf_ex (D := D) hN hnd (s := s) (by omega)
        have hg : ∀ (m s : Nat), 2 ^ N - 1 - s ≤ m → s < 2 ^ N → pc8 s ≤ N ∧ (s ≠ 2 ^ N - 1 → pc8 s < N) := by
          intro m
          induction m with
          | zero => intro s h1 h2; obtain rfl : s = 2 ^ N - 1 := by omega
                    exact ⟨by omega, fun z => (z rfl).elim⟩
          | succ m ih =>
            intro s h1 h2
            by_cases h0 : s = 2 ^ N - 1
            · subst h0; exact ⟨by omega, fun z => (z rfl).elim⟩
            · obtain ⟨b, hb, hmb⟩ := mf_ex (D := D) hN hnd (s := s) (by omega)
              have h3 := adB_gt (mf_bit hmb)
              have h4 := adB_lN (N := N) h2 hb
              have h5 := (ih (adB s b) (by omega) h4).1
              rw [pc8_ad (by omega) (by omega) (mf_bit hmb)] at h5
              exact ⟨by omega, fun _ => by omega⟩
        have := (hg (2 ^ N - 1 - s) s (Nat.le_refl _) hs).2 h
        omega
    subst hsa
    refine ⟨rfl, by rw [bhS_all]; rfl, fun f hf _ => ?_⟩
    exact Nat.zero_le _
  | succ n ih =>
    intro s hs hk
    have hs1 : s < 2 ^ N - 1 := by
      by_cases h : s = 2 ^ N - 1
      · rw [h, hpa] at hk; omega
      · omega
    have hnx := nx_at hN hw hnd hs1
    rw [glL]
    generalize nxL D N s = a at *
    obtain ⟨a1, a2, a3, a4⟩ := hnx
    have hpa2 := pc8_ad (s := s) (a := a) (by omega) (by omega) (mf_bit a2)
    have hl := adB_lN (N := N) hs a1
    obtain ⟨i1, i2, i3⟩ := ih (adB s a) hl (by omega)
    rw [hpa2] at i2 i3
    refine ⟨⟨a1, a2, i1⟩, by rw [fo, i2]; exact a3, fun f hf hfe => ?_⟩
    match f, hf, hfe with
    | [], hf, _ => exact absurd (show s = 2 ^ N - 1 from hf) (by omega)
    | b :: f, hf, hfe =>
      obtain ⟨b1, b2, b3⟩ := hf
      have hpb := pc8_ad (s := s) (a := b) (by omega) (by omega) (mf_bit b2)
      have hlb := adB_lN (N := N) hs b1
      have hge := fo_ge hN hlb b3
      rw [hpb] at hge
      rw [fo] at hfe
      have hlo := bhO_lo (tb := bhS D N) b2 (n := N) b1
      rw [← bhS_is (by omega)] at hlo
      rw [co, co]
      by_cases hab : b = a
      · subst hab
        have := i3 f b3 (by omega)
        omega
      · have hlt : a < b := by
          by_cases h : b < a
          · exact (a4 b h ⟨b2, by omega⟩).elim
          · omega
        have hlen := Fo_len hN hl i1
        rw [hpa2, hpa] at hlen
        have hc := co_lt (f := glL D N n (adB s a)) (k := pc8 s + 1) (by omega) (Fo_mem hN i1)
        rw [show 8 - (pc8 s + 1) = 7 - pc8 s by omega] at hc
        have h2 : (a + 1) * 8 ^ (7 - pc8 s) ≤ b * 8 ^ (7 - pc8 s) := Nat.mul_le_mul_right _ hlt
        rw [Nat.add_mul, Nat.one_mul] at h2
        omega
/-- an order told from its end, and one from its start -/
theorem Vo_Fo (hN : N ≤ 8) : ∀ {r : List Nat} {s : Nat} {f : List Nat}, s < 2 ^ N → Vo D N s r → Fo D N s f → ∃ g, Fo D N 0 g ∧ fo D 0 g * 16777216 + co 0 g = vo D r + fo D r.length f * 16777216 + co r.length f
  | [], s, f, _, h, hf => by
    have : s = 0 := h
    subst this
    exact ⟨f, hf, by simp [vo]⟩
  | a :: r, s, f, hs, h, hf => by
    have hN2 : (2 : Nat) ^ N ≤ 2 ^ 8 := Nat.pow_le_pow_right (by decide) hN
    obtain ⟨a1, a2, a3, a4⟩ := h
    have hb : (rmB s a).testBit a = false := by rw [rmB_bit (by omega)]; simp
    have hmf : mfL D (rmB s a) a = true := by unfold mfL; rw [hb, a3]; rfl
    have hf2 : Fo D N (rmB s a) (a :: f) := ⟨a1, hmf, by rw [ad_rm (by omega) a2]; exact hf⟩
    obtain ⟨g, g1, g2⟩ := Vo_Fo hN (Nat.lt_of_le_of_lt (rmB_le s a) hs) a4 hf2
    refine ⟨g, g1, ?_⟩
    rw [g2, fo, co, vo, List.length_cons, Nat.add_mul]
    omega
theorem Fo_Vo (hN : N ≤ 8) : ∀ {f : List Nat} {s : Nat} {r : List Nat}, s < 2 ^ N → Fo D N s f → Vo D N s r → ∃ g, Vo D N (2 ^ N - 1) g ∧ vo D g = vo D r + fo D r.length f * 16777216 + co r.length f
  | [], s, r, _, h, hr => by
    have : s = 2 ^ N - 1 := h
    subst this
    exact ⟨r, hr, by simp [fo, co]⟩
  | a :: f, s, r, hs, h, hr => by
    have hN2 : (2 : Nat) ^ N ≤ 2 ^ 8 := Nat.pow_le_pow_right (by decide) hN
    obtain ⟨a1, a2, a3⟩ := h
    have hbit : (adB s a).testBit a = true := by rw [adB_bit]; simp
    have hrm := rm_ad (s := s) (a := a) (by omega) (by omega) (mf_bit a2)
    have hr2 : Vo D N (adB s a) (a :: r) := ⟨a1, hbit, by rw [hrm]; exact mf_sub a2, by rw [hrm]; exact hr⟩
    obtain ⟨g, g1, g2⟩ := Fo_Vo hN (adB_lN hs a1) a3 hr2
    refine ⟨g, g1, ?_⟩
    rw [g2, fo, co, vo, List.length_cons, Nat.add_mul]
    omega
/-- the row, and its value -/
def ldR (D : jD) (N : Nat) : List Nat := glL D N N 0
def ldV (D : jD) (N : Nat) : Nat := bhS D N 0 * 16777216 + co 0 (ldR D N)
theorem ldV_is (hN : N ≤ 8) (hw : ∀ a, wgL D a ≤ 9) (hnd : ∀ a, a < N → ndL D a < 2 ^ a) : ldT D N 255 (2 ^ N - 1) = ldV D N := by
  have hN2 : (2 : Nat) ^ N ≤ 2 ^ 8 := Nat.pow_le_pow_right (by decide) hN
  have hN1 : 0 < (2 : Nat) ^ N := Nat.two_pow_pos N
  have hp0 : pc8 0 = 0 := by decide
  have hpa := pc8_all hN
  obtain ⟨g1, g2, g3⟩ := gl_min hN hw hnd N 0 (by omega) (by omega)
  rw [hp0] at g2 g3
  have hmin := ldT_min (D := D) hN hw 255 (2 ^ N - 1) (by omega) (by omega)
  obtain ⟨r0, v1, v2⟩ := Fo_Vo (D := D) hN (by omega) g1 (show Vo D N 0 [] from rfl)
  have hv2 : vo D r0 = ldV D N := by
    rw [v2]
    unfold ldV ldR
    rw [List.length_nil, g2]
    simp [vo]
  have hup := hmin.2 r0 v1
  rw [hv2] at hup
  obtain ⟨r, r1, r2⟩ := hmin.1 hup.1
  obtain ⟨f, f1, f2⟩ := Vo_Fo (D := D) hN (show 2 ^ N - 1 < 2 ^ N by omega) r1 (show Fo D N (2 ^ N - 1) [] from rfl)
  have hf2 : fo D 0 f * 16777216 + co 0 f = vo D r := by rw [f2]; simp [fo, co]
  have hge := fo_ge hN (show 0 < 2 ^ N by omega) f1
  rw [hp0] at hge
  have hlen := Fo_len hN (show 0 < 2 ^ N by omega) g1
  rw [hp0, hpa] at hlen
  have hco := co_lt (f := glL D N N 0) (k := 0) (by omega) (Fo_mem hN g1)
  rw [show (8 : Nat) ^ (8 - 0) = 16777216 from by decide] at hco
  have hle : ldV D N ≤ vo D r := by
    unfold ldV ldR
    rw [← hf2]
    by_cases heq : fo D 0 f = bhS D N 0
    · have := g3 f f1 heq
      rw [heq]
      omega
    · have h1 : bhS D N 0 + 1 ≤ fo D 0 f := by omega
      have h2 : (bhS D N 0 + 1) * 16777216 ≤ fo D 0 f * 16777216 := Nat.mul_le_mul_right _ h1
      rw [Nat.add_mul] at h2
      omega
  omega
/-- the digits of the value -/
theorem co_dig : ∀ {f : List Nat} {k p X : Nat}, k + f.length ≤ 8 → (∀ a ∈ f, a < 8) → p < f.length → (X * 8 ^ (8 - k) + co k f) / 8 ^ (7 - (k + p)) % 8 = f.getD p 0
  | [], k, p, X, _, _, h => by simp at h
  | a :: f, k, p, X, h, ha, hp => by
    simp only [List.length_cons] at h hp
    have h1 := ha a (by simp)
    have hc := co_lt (f := f) (k := k + 1) (by omega) (fun b hb => ha b (by simp [hb]))
    rw [show 8 - (k + 1) = 7 - k by omega] at hc
    have hpow : 8 ^ (8 - k) = 8 * 8 ^ (7 - k) := by rw [show 8 - k = (7 - k) + 1 by omega, Nat.pow_succ, Nat.mul_comm]
    have hre : X * 8 ^ (8 - k) + co k (a :: f) = (X * 8 + a) * 8 ^ (7 - k) + co (k + 1) f := by
      rw [co, hpow, Nat.add_mul, Nat.mul_assoc]
      omega
    match p, hp with
    | 0, _ =>
      rw [hre, show 7 - (k + 0) = 7 - k from rfl, Nat.add_comm ((X * 8 + a) * 8 ^ (7 - k)), Nat.mul_comm (X * 8 + a), Nat.add_mul_div_left _ _ (Nat.pow_pos (show 0 < 8 by decide)), Nat.div_eq_of_lt hc]
      show (0 + (X * 8 + a)) % 8 = a
      omega
    | p + 1, hp =>
      have ih := co_dig (f := f) (k := k + 1) (p := p) (X := X * 8 + a) (by omega) (fun b hb => ha b (by simp [hb])) (by omega)
      rw [hre, show k + (p + 1) = k + 1 + p by omega, show 7 - k = 8 - (k + 1) by omega, ih]
      rfl
end LOAD3
