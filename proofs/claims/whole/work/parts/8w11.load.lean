/-! LOAD: orders, sums, the first of alike ones -/
section LOAD
def sbB (n s : Nat) : Bool := (List.range 8).all (fun i => !n.testBit i || s.testBit i)
def rmB (s a : Nat) : Nat := s &&& (255 ^^^ 2 ^ a)
def adB (s a : Nat) : Nat := s ||| 2 ^ a
theorem bit_hi {s i : Nat} (h : s < 256) (hi : 8 ≤ i) : s.testBit i = false := Nat.testBit_lt_two_pow (Nat.lt_of_lt_of_le h (show 2 ^ 8 ≤ 2 ^ i from Nat.pow_le_pow_right (by decide) hi))
theorem sbB_iff {n s : Nat} (hn : n < 256) : sbB n s = true ↔ ∀ i, n.testBit i = true → s.testBit i = true := by
  unfold sbB
  rw [List.all_eq_true]
  constructor
  · intro h i hi
    by_cases h8 : i < 8
    · have := h i (List.mem_range.mpr h8)
      rw [hi] at this
      simpa using this
    · rw [bit_hi hn (by omega)] at hi; cases hi
  · intro h i _
    cases hc : n.testBit i with
    | false => rfl
    | true => rw [h i hc]; rfl
theorem rmB_bit {s a : Nat} (hs : s < 256) (i : Nat) : (rmB s a).testBit i = (s.testBit i && decide (i ≠ a)) := by
  unfold rmB
  rw [Nat.testBit_and, Nat.testBit_xor, Nat.testBit_two_pow, show (255 : Nat) = 2 ^ 8 - 1 from rfl, Nat.testBit_two_pow_sub_one]
  by_cases h8 : i < 8
  · by_cases ha : i = a
    · subst ha; simp [h8]
    · have h2 : ¬ a = i := fun z => ha z.symm
      simp [h8, ha, h2]
  · rw [bit_hi hs (by omega)]; simp
theorem adB_bit (s a i : Nat) : (adB s a).testBit i = (s.testBit i || decide (i = a)) := by
  unfold adB
  rw [Nat.testBit_or, Nat.testBit_two_pow]
  by_cases ha : i = a
  · subst ha; simp
  · have h2 : ¬ a = i := fun z => ha z.symm
    simp [ha, h2]
theorem adB_lt {s a : Nat} (hs : s < 256) (ha : a < 8) : adB s a < 256 := Nat.or_lt_two_pow (n := 8) hs (Nat.pow_lt_pow_right (by decide) ha)
theorem rmB_le (s a : Nat) : rmB s a ≤ s := Nat.and_le_left
theorem rmB_lt {s a : Nat} (hs : s < 256) (h : s.testBit a = true) : rmB s a < s := by
  have h1 := rmB_le s a
  by_cases h2 : rmB s a = s
  · have := rmB_bit (a := a) hs a
    rw [h2, h] at this
    simp at this
  · omega
theorem rm_ad {s a : Nat} (hs : s < 256) (ha : a < 8) (h : s.testBit a = false) : rmB (adB s a) a = s := by
  refine Nat.eq_of_testBit_eq (fun i => ?_)
  rw [rmB_bit (adB_lt hs ha), adB_bit]
  by_cases hi : i = a
  · subst hi; simp [h]
  · simp [hi]
theorem ad_rm {s a : Nat} (hs : s < 256) (h : s.testBit a = true) : adB (rmB s a) a = s := by
  refine Nat.eq_of_testBit_eq (fun i => ?_)
  rw [adB_bit, rmB_bit hs]
  by_cases hi : i = a
  · subst hi; simp [h]
  · simp [hi]
theorem pc8_split (s : Nat) (a : Nat) : ∀ n, ((List.range n).filter (fun i => s.testBit i)).length = ((List.range n).filter (fun i => s.testBit i && decide (i ≠ a))).length + (if a < n ∧ s.testBit a = true then 1 else 0)
  | 0 => by simp
  | n + 1 => by
    have ih := pc8_split s a n
    rw [List.range_succ, List.filter_append, List.filter_append, List.length_append, List.length_append, ih]
    by_cases hn : n = a
    · subst hn
      rw [if_neg (by omega)]
      by_cases hb : s.testBit n = true
      · rw [if_pos ⟨by omega, hb⟩]
        simp [hb]
      · rw [if_neg (fun z => hb z.2)]
        simp [hb]
    · have h1 : (a < n + 1) ↔ (a < n) := by omega
      simp only [h1]
      by_cases hb : s.testBit n = true
      · simp [hb, hn]; omega
      · simp [hb]
theorem pc8_rm {s a : Nat} (hs : s < 256) (h : s.testBit a = true) : pc8 s = pc8 (rmB s a) + 1 := by
  have ha : a < 8 := by
    by_cases h8 : a < 8
    · exact h8
    · rw [bit_hi hs (by omega)] at h; cases h
  have := pc8_split s a 8
  rw [if_pos ⟨ha, h⟩] at this
  unfold pc8
  rw [this]
  congr 2
  refine congrArg (fun p => (List.range 8).filter p) (funext (fun i => ?_))
  rw [rmB_bit hs]
variable {D : jD}
def ndL (D : jD) (a : Nat) : Nat := (D 4 a).toNat
def wgL (D : jD) (a : Nat) : Nat := if (D 2 a).toNat ≤ 9 then (D 2 a).toNat else 0
/-- an order of a set, the last one first -/
def Vo (D : jD) (N : Nat) : Nat → List Nat → Prop
  | s, [] => s = 0
  | s, a :: r => a < N ∧ s.testBit a = true ∧ sbB (ndL D a) (rmB s a) = true ∧ Vo D N (rmB s a) r
def vo (D : jD) : List Nat → Nat
  | [] => 0
  | a :: r => vo D r + (r.length + 1) * wgL D a * 16777216 + a * 8 ^ (7 - r.length)
theorem Vo_len {N : Nat} : ∀ {r : List Nat} {s : Nat}, s < 256 → Vo D N s r → pc8 s = r.length
  | [], s, _, h => by
    have : s = 0 := h
    subst this
    decide
  | a :: r, s, hs, h => by
    rw [pc8_rm hs h.2.1, Vo_len (Nat.lt_of_le_of_lt (rmB_le s a) hs) h.2.2.2]
    rfl
/-- the class's table of sets -/
def UNR : Int := 4611686018427387904
def ldC (D : jD) (tb : Nat → Int) (s a : Nat) : Int := tb (rmB s a) + (pc8 s * wgL D a * 16777216 + a * 8 ^ (7 - (pc8 s - 1)) : Nat)
def ldO (D : jD) (tb : Nat → Int) (s : Nat) : Nat → Int
  | 0 => UNR
  | a + 1 => if s.testBit a = true ∧ sbB (ndL D a) (rmB s a) = true ∧ tb (rmB s a) ≠ UNR ∧ ldC D tb s a < ldO D tb s a then ldC D tb s a else ldO D tb s a
def ldT (D : jD) (N : Nat) : Nat → Nat → Int
  | 0 => fun _ => 0
  | n + 1 => upw (ldT D N n) (n + 1) (ldO D (ldT D N n) (n + 1) N)
theorem ldO_con {tb tc : Nat → Int} {s : Nat} (hs : s < 256) (h : ∀ x, x < s → tb x = tc x) : ∀ n, ldO D tb s n = ldO D tc s n
  | 0 => rfl
  | n + 1 => by
    rw [ldO, ldO, ldO_con hs h n]
    by_cases hb : s.testBit n = true
    · have := rmB_lt hs hb
      unfold ldC
      rw [h _ this]
    · rw [if_neg (fun z => hb z.1), if_neg (fun z => hb z.1)]
theorem ldT_old {N n s : Nat} (h : s ≤ n) : ∀ m, n ≤ m → ldT D N m s = ldT D N n s := by
  intro m hm
  induction hm with
  | refl => rfl
  | step hm ih =>
    rename_i m
    have : n ≤ m := hm
    rw [ldT, upw_eq, if_neg (by omega), ih]
theorem ldT_is {N n s : Nat} (hs : s < 256) (h0 : s ≠ 0) (h : s ≤ n) : ldT D N n s = ldO D (ldT D N n) s N := by
  obtain ⟨p, rfl⟩ : ∃ p, s = p + 1 := ⟨s - 1, by omega⟩
  rw [ldT_old (n := p + 1) (Nat.le_refl _) n h, ldT, upw_eq, if_pos rfl]
  refine ldO_con hs (fun x hx => ?_) N
  rw [ldT_old (n := p) (by omega) n (by omega)]
theorem ldT_0 {N : Nat} : ∀ n, ldT D N n 0 = 0
  | 0 => rfl
  | n + 1 => by rw [ldT, upw_eq, if_neg (by omega)]; exact ldT_0 n
theorem ldO_at {tb : Nat → Int} {s : Nat} : ∀ {n}, ldO D tb s n ≠ UNR → ∃ a, a < n ∧ s.testBit a = true ∧ sbB (ndL D a) (rmB s a) = true ∧ tb (rmB s a) ≠ UNR ∧ ldO D tb s n = ldC D tb s a
  | 0, h => (h rfl).elim
  | n + 1, h => by
    rw [ldO] at h ⊢
    by_cases h1 : s.testBit n = true ∧ sbB (ndL D n) (rmB s n) = true ∧ tb (rmB s n) ≠ UNR ∧ ldC D tb s n < ldO D tb s n
    · rw [if_pos h1]
      exact ⟨n, by omega, h1.1, h1.2.1, h1.2.2.1, rfl⟩
    · rw [if_neg h1] at h ⊢
      obtain ⟨a, h2, h3⟩ := ldO_at h
      exact ⟨a, by omega, h3⟩
theorem ldO_lo {tb : Nat → Int} {s a : Nat} (h1 : s.testBit a = true) (h2 : sbB (ndL D a) (rmB s a) = true) (h3 : tb (rmB s a) ≠ UNR) : ∀ {n}, a < n → ldO D tb s n ≤ ldC D tb s a
  | 0, h => by omega
  | n + 1, h => by
    rw [ldO]
    by_cases ha : a = n
    · subst ha
      by_cases h5 : ldC D tb s a < ldO D tb s a
      · rw [if_pos ⟨h1, h2, h3, h5⟩]; exact Int.le_refl _
      · rw [if_neg (fun z => h5 z.2.2.2)]; omega
    · have ih := ldO_lo h1 h2 h3 (n := n) (by omega)
      split
      · rename_i h6; have := h6.2.2.2; omega
      · exact ih
/-- how large they can be -/
theorem vo_le (hw : ∀ a, wgL D a ≤ 9) : ∀ {r : List Nat}, r.length ≤ 8 → (∀ a ∈ r, a < 8) → vo D r ≤ r.length * 10000000000
  | [], _, _ => by simp [vo]
  | a :: r, h, ha => by
    have ih := vo_le hw (r := r) (by simp at h; omega) (fun b hb => ha b (by simp [hb]))
    simp only [List.length_cons] at h
    have h1 : (r.length + 1) * wgL D a ≤ 8 * 9 := Nat.mul_le_mul (by omega) (hw a)
    have h2 : a * 8 ^ (7 - r.length) ≤ 8 * 8 ^ 7 := Nat.mul_le_mul (by have := ha a (by simp); omega) (Nat.pow_le_pow_right (by decide) (by omega))
    rw [vo, List.length_cons]
    have h3 : (r.length + 1) * wgL D a * 16777216 ≤ 72 * 16777216 := Nat.mul_le_mul_right _ h1
    have h4 : (8 : Nat) * 8 ^ 7 = 16777216 := by decide
    omega
theorem Vo_mem {N : Nat} (hN : N ≤ 8) : ∀ {r : List Nat} {s : Nat}, Vo D N s r → ∀ a ∈ r, a < 8
  | [], _, _, a, h => by cases h
  | b :: r, s, h, a, hm => by
    rcases List.mem_cons.mp hm with rfl | hm
    · have := h.1; omega
    · exact Vo_mem hN h.2.2.2 a hm
theorem pc8_le (s : Nat) : pc8 s ≤ 8 := by
  unfold pc8
  exact Nat.le_trans (List.length_filter_le _ _) (by simp)
/-- the table holds the least of all orders of a set -/
theorem ldT_min {N : Nat} (hN : N ≤ 8) (hw : ∀ a, wgL D a ≤ 9) : ∀ (n s : Nat), s ≤ n → s < 256 → (ldT D N 255 s ≠ UNR → ∃ r, Vo D N s r ∧ ldT D N 255 s = vo D r) ∧ ∀ r, Vo D N s r → ldT D N 255 s ≠ UNR ∧ ldT D N 255 s ≤ vo D r := by
  intro n
  induction n with
  | zero =>
    intro s hs _
    obtain rfl : s = 0 := by omega
    rw [ldT_0]
    refine ⟨fun _ => ⟨[], rfl, rfl⟩, fun r h => ⟨by unfold UNR; decide, by omega⟩⟩
  | succ n ih =>
    intro s hs h256
    by_cases hsn : s ≤ n
    · exact ih s hsn h256
    · rw [ldT_is h256 (by omega) (by omega)]
      have hcand : ∀ (r : List Nat) (a : Nat), Vo D N (rmB s a) r → s.testBit a = true → pc8 s = r.length + 1 := fun r a h1 h2 => by
        rw [pc8_rm h256 h2, Vo_len (Nat.lt_of_le_of_lt (rmB_le s a) h256) h1]
      have hval : ∀ (r : List Nat) (a : Nat) (v : Int), pc8 s = r.length + 1 → ldT D N 255 (rmB s a) = v → ldC D (ldT D N 255) s a = v + ((vo D (a :: r) - vo D r : Nat) : Int) := fun r a v h1 h2 => by
        unfold ldC
        rw [h2, h1, vo]
        congr 2
        rw [Nat.add_sub_cancel, Nat.add_assoc, Nat.add_sub_cancel_left]
      have hsub : ∀ (r : List Nat) (a : Nat), vo D r ≤ vo D (a :: r) := fun r a => by rw [vo]; omega
      constructor
      · intro h
        obtain ⟨a, a1, a2, a3, a4, a5⟩ := ldO_at h
        have hlt := rmB_lt h256 a2
        obtain ⟨r, r1, r2⟩ := (ih (rmB s a) (by omega) (by omega)).1 a4
        refine ⟨a :: r, ⟨a1, a2, a3, r1⟩, ?_⟩
        rw [a5, hval r a _ (hcand r a r1 a2) r2]
        have := hsub r a
        omega
      · intro r hr
        match r, hr with
        | [], hr => exact absurd (show s = 0 from hr) (by omega)
        | a :: r, hr =>
          obtain ⟨a1, a2, a3, a4⟩ := hr
          have hlt := rmB_lt h256 a2
          have hrec := (ih (rmB s a) (by omega) (by omega)).2 r a4
          have hlo := ldO_lo (D := D) (tb := ldT D N 255) a2 a3 hrec.1 (n := N) a1
          rw [hval r a _ (hcand r a a4 a2) rfl] at hlo
          have hs2 := hsub r a
          have hle : ldO D (ldT D N 255) s N ≤ vo D (a :: r) := by omega
          refine ⟨fun z => ?_, hle⟩
          have hVo : Vo D N s (a :: r) := ⟨a1, a2, a3, a4⟩
          have hl8 : (a :: r).length ≤ 8 := by rw [← Vo_len h256 hVo]; exact pc8_le s
          have hv := vo_le (D := D) hw (r := a :: r) hl8 (Vo_mem hN hVo)
          have h9 : (a :: r).length * 10000000000 ≤ 8 * 10000000000 := Nat.mul_le_mul_right _ hl8
          rw [z] at hle
          unfold UNR at hle
          omega
end LOAD
