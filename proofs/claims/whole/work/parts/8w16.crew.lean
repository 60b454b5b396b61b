/-! CREW: which gang lays what; the least time, and of alike ways the first -/
section CREW
def hrL (D : jD) (a : Nat) : Nat := (D 1 a).toNat
def qkL (D : jD) (g : Nat) : Nat := (D 7 g).toNat
variable {D : jD} {N G S : Nat}
/-- how many hours gang g has of the last n wagons -/
def lds (D : jD) (N S : Nat) (c : Nat → Int) (g : Nat) : Nat → Nat
  | 0 => 0
  | n + 1 => (if S.testBit (N - (n + 1)) = true ∧ c (N - (n + 1)) = g then hrL D (N - (n + 1)) else 0) + lds D N S c g n
/-- the last n wagons have each a gang, or none if they are not told -/
def Vc (N G S : Nat) (c : Nat → Int) (n : Nat) : Prop := ∀ b, N - n ≤ b → b < N → (S.testBit b = true → 0 ≤ c b ∧ c b < G) ∧ (S.testBit b = false → c b = -1)
def Fit (D : jD) (N G S : Nat) (rm : Nat → Int) (c : Nat → Int) (n : Nat) : Prop := Vc N G S c n ∧ ∀ g, g < G → (lds D N S c g n : Int) ≤ rm g
/-- the order of ways: by wagons -/
def cdn (N : Nat) (c : Nat → Int) : Nat → Nat
  | 0 => 0
  | n + 1 => (c (N - (n + 1)) + 1).toNat * 5 ^ n + cdn N c n
theorem lds_con {c d : Nat → Int} {g : Nat} : ∀ {n}, n ≤ N → (∀ b, N - n ≤ b → b < N → c b = d b) → lds D N S c g n = lds D N S d g n
  | 0, _, _ => rfl
  | n + 1, hn, h => by rw [lds, lds, h (N - (n + 1)) (Nat.le_refl _) (by omega), lds_con (by omega) (fun b h1 h2 => h b (by omega) h2)]
theorem cdn_con {c d : Nat → Int} : ∀ {n}, n ≤ N → (∀ b, N - n ≤ b → b < N → c b = d b) → cdn N c n = cdn N d n
  | 0, _, _ => rfl
  | n + 1, hn, h => by rw [cdn, cdn, h (N - (n + 1)) (Nat.le_refl _) (by omega), cdn_con (by omega) (fun b h1 h2 => h b (by omega) h2)]
theorem Vc_con {c d : Nat → Int} {n : Nat} (h : ∀ b, N - n ≤ b → b < N → c b = d b) (hc : Vc N G S c n) : Vc N G S d n := fun b h1 h2 => by rw [← h b h1 h2]; exact hc b h1 h2
theorem Vc_s {c : Nat → Int} {n : Nat} (hn : n < N) : Vc N G S c (n + 1) ↔ ((S.testBit (N - (n + 1)) = true → 0 ≤ c (N - (n + 1)) ∧ c (N - (n + 1)) < G) ∧ (S.testBit (N - (n + 1)) = false → c (N - (n + 1)) = -1)) ∧ Vc N G S c n := by
  constructor
  · intro h
    exact ⟨h _ (Nat.le_refl _) (by omega), fun b h1 h2 => h b (by omega) h2⟩
  · rintro ⟨h1, h2⟩ b h3 h4
    by_cases hb : b = N - (n + 1)
    · rw [hb]; exact h1
    · exact h2 b (by omega) h4
theorem cdn_lt (hG : G ≤ 4) {c : Nat → Int} : ∀ {n}, n ≤ N → Vc N G S c n → cdn N c n < 5 ^ n
  | 0, _, _ => by simp [cdn]
  | n + 1, hn, h => by
    have h1 := (Vc_s (by omega)).mp h
    have ih := cdn_lt hG (by omega) h1.2
    rw [cdn, Nat.pow_succ]
    have h2 : (c (N - (n + 1)) + 1).toNat ≤ 4 := by
      cases hb : S.testBit (N - (n + 1)) with
      | true => have := h1.1.1 hb; omega
      | false => have := h1.1.2 hb; omega
    have h3 : (c (N - (n + 1)) + 1).toNat * 5 ^ n ≤ 4 * 5 ^ n := Nat.mul_le_mul_right _ h2
    omega
/-- ways alike by their order are the same -/
theorem cdn_inj (hG : G ≤ 4) {c d : Nat → Int} : ∀ {n}, n ≤ N → Vc N G S c n → Vc N G S d n → cdn N c n = cdn N d n → ∀ b, N - n ≤ b → b < N → c b = d b
  | 0, _, _, _, _, b, h1, h2 => by omega
  | n + 1, hn, hc, hd, he, b, h1, h2 => by
    have c1 := (Vc_s (by omega)).mp hc
    have d1 := (Vc_s (by omega)).mp hd
    have l1 := cdn_lt hG (by omega) c1.2
    have l2 := cdn_lt hG (by omega) d1.2
    rw [cdn, cdn] at he
    have hx : (c (N - (n + 1)) + 1).toNat = (d (N - (n + 1)) + 1).toNat := by
      generalize (c (N - (n + 1)) + 1).toNat = x at *
      generalize (d (N - (n + 1)) + 1).toNat = y at *
      generalize 5 ^ n = P at *
      rcases Nat.lt_trichotomy x y with h | h | h
      · have h3 : (x + 1) * P ≤ y * P := Nat.mul_le_mul_right _ h
        rw [Nat.add_mul, Nat.one_mul] at h3
        omega
      · exact h
      · have h3 : (y + 1) * P ≤ x * P := Nat.mul_le_mul_right _ h
        rw [Nat.add_mul, Nat.one_mul] at h3
        omega
    rw [hx] at he
    have ih := cdn_inj hG (by omega) c1.2 d1.2 (by omega)
    by_cases hb : b = N - (n + 1)
    · rw [hb]
      cases hbb : S.testBit (N - (n + 1)) with
      | true => have := c1.1.1 hbb; have := d1.1.1 hbb; omega
      | false => rw [c1.1.2 hbb, d1.1.2 hbb]
    · exact ih b (by omega) h2
/-- two gangs are changed for each other -/
def swp (x y : Nat) (c : Nat → Int) : Nat → Int := fun b => if c b = x then y else if c b = y then x else c b
theorem lds_swp {x y g : Nat} {c : Nat → Int} : ∀ n, lds D N S (swp x y c) g n = lds D N S c (if g = x then y else if g = y then x else g) n
  | 0 => rfl
  | n + 1 => by
    rw [lds, lds, lds_swp n]
    congr 1
    have h : (swp x y c (N - (n + 1)) = g) ↔ (c (N - (n + 1)) = ((if g = x then y else if g = y then x else g : Nat) : Int)) := by
      unfold swp
      by_cases h1 : c (N - (n + 1)) = x
      · rw [if_pos h1, h1]
        by_cases h2 : g = x
        · rw [if_pos h2]; omega
        · rw [if_neg h2]
          by_cases h3 : g = y
          · rw [if_pos h3]; omega
          · rw [if_neg h3]; omega
      · rw [if_neg h1]
        by_cases h4 : c (N - (n + 1)) = y
        · rw [if_pos h4, h4]
          by_cases h2 : g = x
          · rw [if_pos h2]; omega
          · rw [if_neg h2]
            by_cases h3 : g = y
            · rw [if_pos h3]; omega
            · rw [if_neg h3]; omega
        · rw [if_neg h4]
          by_cases h2 : g = x
          · rw [if_pos h2]; omega
          · rw [if_neg h2]
            by_cases h3 : g = y
            · rw [if_pos h3]; omega
            · rw [if_neg h3]
    simp only [h]
theorem Fit_swp {x y n : Nat} {rm : Nat → Int} {c : Nat → Int} (hx : x < G) (hy : y < G) (h : Fit D N G S rm c n) : Fit D N G S (fun g => if g = x then rm y else if g = y then rm x else rm g) (swp x y c) n := by
  refine ⟨fun b h1 h2 => ⟨fun hb => ?_, fun hb => ?_⟩, fun g hg => ?_⟩
  · have := (h.1 b h1 h2).1 hb
    unfold swp
    split
    · omega
    · split <;> omega
  · have := (h.1 b h1 h2).2 hb
    unfold swp
    rw [if_neg (by omega), if_neg (by omega)]
    exact this
  · rw [lds_swp]
    by_cases h1 : g = x
    · simp only [if_pos h1]; exact h.2 y hy
    · simp only [if_neg h1]
      by_cases h2 : g = y
      · simp only [if_pos h2]; exact h.2 x hx
      · simp only [if_neg h2]; exact h.2 g hg
/-- the first of the last n + 1 wagons takes gang g -/
theorem Fit_s {n : Nat} {rm : Nat → Int} {c : Nat → Int} (hn : n < N) : Fit D N G S rm c (n + 1) ↔ (S.testBit (N - (n + 1)) = false ∧ c (N - (n + 1)) = -1 ∧ Fit D N G S rm c n) ∨ (S.testBit (N - (n + 1)) = true ∧ ∃ g, g < G ∧ c (N - (n + 1)) = g ∧ (hrL D (N - (n + 1)) : Int) ≤ rm g ∧ Fit D N G S (upw rm g (rm g - hrL D (N - (n + 1)))) c n) := by
  unfold Fit
  rw [Vc_s hn]
  constructor
  · rintro ⟨⟨h1, h2⟩, h3⟩
    cases hb : S.testBit (N - (n + 1)) with
    | false =>
      refine Or.inl ⟨rfl, h1.2 hb, h2, fun g hg => ?_⟩
      have := h3 g hg
      rw [lds, if_neg (fun z => by rw [hb] at z; exact absurd z.1 (by decide))] at this
      omega
    | true =>
      have h4 := h1.1 hb
      obtain ⟨g, hg⟩ := Int.eq_ofNat_of_zero_le h4.1
      have hgG : g < G := by omega
      have h5 := h3 g hgG
      rw [lds, if_pos ⟨hb, hg⟩] at h5
      refine Or.inr ⟨rfl, g, hgG, hg, by omega, h2, fun g' hg' => ?_⟩
      have h6 := h3 g' hg'
      rw [lds] at h6
      rw [upw_eq]
      by_cases hgg : g' = g
      · subst hgg
        rw [if_pos rfl]
        omega
      · rw [if_neg hgg]
        omega
  · rintro (⟨hb, h1, h2, h3⟩ | ⟨hb, g, hg, h1, h2, h3, h4⟩)
    · refine ⟨⟨⟨fun z => (by rw [hb] at z; cases z), fun _ => h1⟩, h2⟩, fun g hg => ?_⟩
      have := h3 g hg
      rw [lds, if_neg (fun z => by rw [hb] at z; exact absurd z.1 (by decide))]
      omega
    · refine ⟨⟨⟨fun _ => by omega, fun z => (by rw [hb] at z; cases z)⟩, h3⟩, fun g' hg' => ?_⟩
      have h6 := h4 g' hg'
      rw [upw_eq] at h6
      rw [lds]
      by_cases hgg : g' = g
      · subst hgg
        rw [if_pos rfl] at h6
        rw [if_pos ⟨hb, h1⟩]
        omega
      · rw [if_neg hgg] at h6
        rw [if_neg (fun z => by omega)]
        omega
/-- the time of a way -/
def tmC (D : jD) (N G S : Nat) (c : Nat → Int) : Nat := mxF (fun g => dF (qkL D g) (lds D N S c g N)) G
theorem mxF_iff {f : Nat → Nat} {b : Nat} : ∀ {m}, mxF f m ≤ b ↔ ∀ k, k < m → f k ≤ b
  | 0 => by simp [mxF]
  | m + 1 => by
    have ih := mxF_iff (f := f) (b := b) (m := m)
    rw [mxF]
    constructor
    · intro h k hk
      by_cases hm : k = m
      · rw [hm]; omega
      · exact ih.mp (by omega) k (by omega)
    · intro h
      have := ih.mpr (fun k hk => h k (by omega))
      have := h m (by omega)
      omega
theorem tmC_iff (hq : ∀ g, g < G → 1 ≤ qkL D g) {c : Nat → Int} {H : Nat} : tmC D N G S c ≤ H ↔ ∀ g, g < G → lds D N S c g N ≤ H * qkL D g := by
  unfold tmC
  rw [mxF_iff]
  constructor
  · intro h g hg
    have := (dF_le (hq g hg)).mp (h g hg)
    rw [Nat.mul_comm]
    exact this
  · intro h g hg
    refine (dF_le (hq g hg)).mpr ?_
    rw [Nat.mul_comm]
    exact h g hg
/-- what is to be found -/
def CrOk (D : jD) (N G S : Nat) (t : Int) (c : Nat → Int) : Prop := (Vc N G S c N ∧ t = tmC D N G S c ∧ ∀ c', Vc N G S c' N → tmC D N G S c < tmC D N G S c' ∨ (tmC D N G S c = tmC D N G S c' ∧ cdn N c N ≤ cdn N c' N)) ∨ ((∀ c', ¬ Vc N G S c' N) ∧ t = -1 ∧ ∀ a, a < N → c a = -1)
theorem CrOk_one (hG : G ≤ 4) {t t' : Int} {c c' : Nat → Int} (h : CrOk D N G S t c) (h' : CrOk D N G S t' c') : t = t' ∧ ∀ a, a < N → c a = c' a := by
  rcases h with ⟨h1, h2, h3⟩ | ⟨h1, h2, h3⟩
  · rcases h' with ⟨g1, g2, g3⟩ | ⟨g1, g2, g3⟩
    · have a1 := h3 c' g1
      have a2 := g3 c h1
      have e : cdn N c N = cdn N c' N := by omega
      exact ⟨by omega, fun a ha => cdn_inj hG (Nat.le_refl _) h1 g1 e a (by omega) ha⟩
    · exact (g1 c h1).elim
  · rcases h' with ⟨g1, g2, g3⟩ | ⟨g1, g2, g3⟩
    · exact (h1 c' g1).elim
    · exact ⟨by omega, fun a ha => by rw [h3 a ha, g3 a ha]⟩
/-- all hours, all quickness -/
theorem lds_sum {c : Nat → Int} : ∀ {n}, n ≤ N → Vc N G S c n → smI (fun g => (lds D N S c g n : Int)) G = smI (fun b => if N - n ≤ b ∧ S.testBit b = true then (hrL D b : Int) else 0) N
  | 0, _, _ => by
    have e1 : smI (fun g => ((lds D N S c g 0 : Nat) : Int)) G = 0 := smI_0 G
    rw [e1, smI_con (g := fun _ => 0) (fun i hi => if_neg (fun z => by omega)), smI_0]
  | n + 1, hn, h => by
    have h1 := (Vc_s (by omega)).mp h
    have ih := lds_sum (by omega) h1.2
    have e1 : smI (fun g => ((lds D N S c g (n + 1) : Nat) : Int)) G = smI (fun g => (if S.testBit (N - (n + 1)) = true ∧ c (N - (n + 1)) = g then (hrL D (N - (n + 1)) : Int) else 0) + (lds D N S c g n : Int)) G := smI_con (fun g _ => by
      rw [lds]
      split <;> simp)
    rw [e1, smI_add, ih]
    have e2 := smI_one (fun b => if N - (n + 1) ≤ b ∧ S.testBit b = true then (hrL D b : Int) else 0) (N - (n + 1)) N
    rw [if_pos (by omega)] at e2
    rw [e2]
    have e3 : smI (fun i => if i = N - (n + 1) then 0 else if N - (n + 1) ≤ i ∧ S.testBit i = true then (hrL D i : Int) else 0) N = smI (fun b => if N - n ≤ b ∧ S.testBit b = true then (hrL D b : Int) else 0) N := smI_con (fun i hi => by
      by_cases h2 : i = N - (n + 1)
      · rw [if_pos h2, if_neg (fun z => by omega)]
      · rw [if_neg h2]
        by_cases h3 : N - n ≤ i ∧ S.testBit i = true
        · rw [if_pos ⟨by omega, h3.2⟩, if_pos h3]
        · rw [if_neg (fun z => h3 ⟨by omega, z.2⟩), if_neg h3])
    rw [e3]
    have e4 : smI (fun g => if S.testBit (N - (n + 1)) = true ∧ c (N - (n + 1)) = (g : Int) then (hrL D (N - (n + 1)) : Int) else 0) G = if N - (n + 1) ≤ N - (n + 1) ∧ S.testBit (N - (n + 1)) = true then (hrL D (N - (n + 1)) : Int) else 0 := by
      cases hb : S.testBit (N - (n + 1)) with
      | false =>
        rw [smI_con (g := fun _ => 0) (fun i _ => if_neg (fun z => absurd z.1 (by decide))), smI_0, if_neg (fun z => absurd z.2 (by decide))]
      | true =>
        have h4 := h1.1.1 hb
        obtain ⟨g, hg⟩ := Int.eq_ofNat_of_zero_le h4.1
        rw [smI_one _ g G, if_pos (by omega), if_pos ⟨rfl, hg⟩, if_pos ⟨Nat.le_refl _, rfl⟩]
        rw [smI_con (g := fun _ => 0) (fun i _ => ?_), smI_0]
        · omega
        · by_cases hi : i = g
          · rw [if_pos hi]
          · rw [if_neg hi, if_neg (fun z => hi (by omega))]
    rw [e4]
    omega
end CREW
