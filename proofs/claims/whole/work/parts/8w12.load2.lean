/-! LOAD as the reference finds it: what is least behind a set; the first such row -/
section LOAD2
variable {D : jD} {N : Nat}
def FARr : Nat := 1000000
/-- whether one may follow a set -/
def mfL (D : jD) (s a : Nat) : Bool := !s.testBit a && sbB (ndL D a) s
def bhO (D : jD) (tb : Nat → Nat) (s : Nat) : Nat → Nat
  | 0 => FARr
  | a + 1 => if mfL D s a = true ∧ (pc8 s + 1) * wgL D a + tb (adB s a) < bhO D tb s a then (pc8 s + 1) * wgL D a + tb (adB s a) else bhO D tb s a
/-- the least sum behind each set, from the whole down: n sets below the whole are told -/
def bhT (D : jD) (N : Nat) : Nat → Nat → Nat
  | 0 => fun _ => 0
  | n + 1 => fun s => if s = 2 ^ N - 1 - (n + 1) then bhO D (bhT D N n) s N else bhT D N n s
def bhS (D : jD) (N s : Nat) : Nat := bhT D N (2 ^ N - 1) s
/-- a row behind a set -/
def Fo (D : jD) (N : Nat) : Nat → List Nat → Prop
  | s, [] => s = 2 ^ N - 1
  | s, a :: f => a < N ∧ mfL D s a = true ∧ Fo D N (adB s a) f
def fo (D : jD) : Nat → List Nat → Nat
  | _, [] => 0
  | k, a :: f => (k + 1) * wgL D a + fo D (k + 1) f
def co : Nat → List Nat → Nat
  | _, [] => 0
  | k, a :: f => a * 8 ^ (7 - k) + co (k + 1) f
theorem adB_gt {s a : Nat} (h : s.testBit a = false) : s < adB s a := by
  have h1 : s ≤ adB s a := Nat.left_le_or
  by_cases h2 : s = adB s a
  · have := adB_bit s a a
    rw [← h2, h] at this
    simp at this
  · omega
theorem adB_lN {s a : Nat} (hs : s < 2 ^ N) (ha : a < N) : adB s a < 2 ^ N := Nat.or_lt_two_pow hs (Nat.pow_lt_pow_right (by decide) ha)
theorem bhO_con {tb tc : Nat → Nat} {s : Nat} : ∀ n, (∀ x, s < x → x < 2 ^ N → tb x = tc x) → s < 2 ^ N → n ≤ N → bhO D tb s n = bhO D tc s n
  | 0, _, _, _ => rfl
  | n + 1, h, hs, hn => by
    rw [bhO, bhO, bhO_con n h hs (by omega)]
    by_cases hb : mfL D s n = true
    · have hb2 : s.testBit n = false := by
        unfold mfL at hb
        cases hc : s.testBit n with
        | false => rfl
        | true => rw [hc] at hb; simp at hb
      rw [h _ (adB_gt hb2) (adB_lN hs (by omega))]
    · rw [if_neg (fun z => hb z.1), if_neg (fun z => hb z.1)]
theorem bhT_old {n s : Nat} (h : 2 ^ N - 1 - n ≤ s) : ∀ m, n ≤ m → m ≤ 2 ^ N - 1 → bhT D N m s = bhT D N n s := by
  intro m hm
  induction hm with
  | refl => intro _; rfl
  | step hm ih =>
    rename_i m
    intro hm2
    have h3 : n ≤ m := hm
    have h4 : m + 1 ≤ 2 ^ N - 1 := hm2
    show (if s = 2 ^ N - 1 - (m + 1) then bhO D (bhT D N m) s N else bhT D N m s) = _
    rw [if_neg (by omega), ih (by omega)]
theorem bhS_all : bhS D N (2 ^ N - 1) = 0 := by
  unfold bhS
  rw [bhT_old (n := 0) (by omega) _ (Nat.zero_le _) (Nat.le_refl _)]
  rfl
theorem bhS_is {s : Nat} (hs : s < 2 ^ N - 1) : bhS D N s = bhO D (bhS D N) s N := by
  unfold bhS
  obtain ⟨n, hn⟩ : ∃ n, 2 ^ N - 1 - s = n + 1 := ⟨2 ^ N - 1 - s - 1, by omega⟩
  rw [bhT_old (n := n + 1) (by omega) _ (by omega) (Nat.le_refl _)]
  show (if s = 2 ^ N - 1 - (n + 1) then bhO D (bhT D N n) s N else bhT D N n s) = _
  rw [if_pos (by omega)]
  refine bhO_con N (fun x hx hx2 => ?_) (by omega) (Nat.le_refl _)
  rw [bhT_old (n := n) (by omega) _ (by omega) (Nat.le_refl _)]
theorem bhO_at {tb : Nat → Nat} {s : Nat} : ∀ {n}, bhO D tb s n ≠ FARr → ∃ a, a < n ∧ mfL D s a = true ∧ bhO D tb s n = (pc8 s + 1) * wgL D a + tb (adB s a)
  | 0, h => (h rfl).elim
  | n + 1, h => by
    rw [bhO] at h ⊢
    by_cases h1 : mfL D s n = true ∧ (pc8 s + 1) * wgL D n + tb (adB s n) < bhO D tb s n
    · rw [if_pos h1]
      exact ⟨n, by omega, h1.1, rfl⟩
    · rw [if_neg h1] at h ⊢
      obtain ⟨a, h2, h3⟩ := bhO_at h
      exact ⟨a, by omega, h3⟩
theorem bhO_lo {tb : Nat → Nat} {s a : Nat} (h1 : mfL D s a = true) : ∀ {n}, a < n → bhO D tb s n ≤ (pc8 s + 1) * wgL D a + tb (adB s a)
  | 0, h => by omega
  | n + 1, h => by
    rw [bhO]
    by_cases ha : a = n
    · subst ha
      by_cases h5 : (pc8 s + 1) * wgL D a + tb (adB s a) < bhO D tb s a
      · rw [if_pos ⟨h1, h5⟩]; exact Nat.le_refl _
      · rw [if_neg (fun z => h5 z.2)]; omega
    · have ih := bhO_lo (tb := tb) h1 (n := n) (by omega)
      split
      · rename_i h6; have := h6.2; omega
      · exact ih
theorem pc8_ad {s a : Nat} (hs : s < 256) (ha : a < 8) (h : s.testBit a = false) : pc8 (adB s a) = pc8 s + 1 := by
  rw [pc8_rm (a := a) (adB_lt hs ha) (by rw [adB_bit]; simp), rm_ad hs ha h]
theorem mf_bit {s a : Nat} (h : mfL D s a = true) : s.testBit a = false := by
  unfold mfL at h
  cases hc : s.testBit a with
  | false => rfl
  | true => rw [hc] at h; simp at h
theorem mf_sub {s a : Nat} (h : mfL D s a = true) : sbB (ndL D a) s = true := by
  unfold mfL at h
  simp only [Bool.and_eq_true] at h
  exact h.2
/-- one that is missing may follow: the first -/
theorem mf_ex (hN : N ≤ 8) (hnd : ∀ a, a < N → ndL D a < 2 ^ a) {s : Nat} (hs : s < 2 ^ N - 1) : ∃ a, a < N ∧ mfL D s a = true := by
  have hex : ∃ a, a < N ∧ s.testBit a = false ∧ ∀ b, b < a → s.testBit b = true := by
    have hfi := fsI_no (P := fun i => !s.testBit i) (n := N)
    by_cases h : fsI (fun i => !s.testBit i) N = -1
    · have h1 := hfi.mp h
      have : s = 2 ^ N - 1 := by
        refine Nat.eq_of_testBit_eq (fun i => ?_)
        rw [Nat.testBit_two_pow_sub_one]
        by_cases hi : i < N
        · have := h1 i hi
          simp at this
          rw [this]; simp [hi]
        · rw [Nat.testBit_lt_two_pow (Nat.lt_of_lt_of_le (show s < 2 ^ N by omega) (Nat.pow_le_pow_right (by decide) (by omega)))]
          simp [hi]
      omega
    · have h2 := fsI_rg (fun i => !s.testBit i) N
      obtain ⟨a, ha⟩ := Int.eq_ofNat_of_zero_le (show 0 ≤ fsI (fun i => !s.testBit i) N by omega)
      have key : ∀ n : Nat, ∀ a : Nat, fsI (fun i => !s.testBit i) n = a → s.testBit a = false ∧ ∀ b, b < a → s.testBit b = true := by
        intro n
        induction n with
        | zero => intro a h; simp [fsI] at h
        | succ n ih =>
          intro a h
          rw [fsI] at h
          by_cases hc : fsI (fun i => !s.testBit i) n = -1
          · rw [if_neg (by omega)] at h
            by_cases hp : (!s.testBit n) = true
            · rw [if_pos hp] at h
              obtain rfl : n = a := by omega
              refine ⟨by simpa using hp, fun b hb => ?_⟩
              have := fsI_no.mp hc b hb
              simpa using this
            · rw [if_neg hp] at h
              omega
          · rw [if_pos hc] at h
            exact ih a h
      have := key N a ha
      exact ⟨a, by omega, this.1, this.2⟩
  obtain ⟨a, h1, h2, h3⟩ := hex
  refine ⟨a, h1, ?_⟩
  unfold mfL
  rw [h2]
  simp only [Bool.not_false, Bool.true_and]
  have h256 : ndL D a < 256 := Nat.lt_of_lt_of_le (hnd a h1) (show 2 ^ a ≤ 2 ^ 8 from Nat.pow_le_pow_right (by decide) (by omega))
  refine (sbB_iff h256).mpr (fun i hi => h3 i ?_)
  by_cases hia : i < a
  · exact hia
  · rw [Nat.testBit_lt_two_pow (Nat.lt_of_lt_of_le (hnd a h1) (Nat.pow_le_pow_right (by decide) (by omega)))] at hi
    cases hi
/-- a set's least sum is some row's, and no row's is less -/
theorem bhS_le (hN : N ≤ 8) (hw : ∀ a, wgL D a ≤ 9) (hnd : ∀ a, a < N → ndL D a < 2 ^ a) : ∀ (m s : Nat), 2 ^ N - 1 - s ≤ m → s < 2 ^ N → bhS D N s ≤ 72 * (2 ^ N - 1 - s) := by
  intro m
  induction m with
  | zero =>
    intro s h hs
    obtain rfl : s = 2 ^ N - 1 := by omega
    rw [bhS_all]
    omega
  | succ m ih =>
    intro s h hs
    by_cases h0 : s = 2 ^ N - 1
    · subst h0; rw [bhS_all]; omega
    · have hN2 : (2 : Nat) ^ N ≤ 2 ^ 8 := Nat.pow_le_pow_right (by decide) hN
      obtain ⟨a, ha, hm⟩ := mf_ex (D := D) hN hnd (s := s) (by omega)
      have hlo := bhO_lo (tb := bhS D N) hm (n := N) ha
      rw [← bhS_is (by omega)] at hlo
      have hg := adB_gt (mf_bit hm)
      have hl := adB_lN (N := N) hs ha
      have := ih (adB s a) (by omega) hl
      have h9 : (pc8 s + 1) * wgL D a ≤ 8 * 9 := by
        refine Nat.mul_le_mul ?_ (hw a)
        rw [← pc8_ad (by omega) (by omega) (mf_bit hm)]
        exact pc8_le _
      omega
/-- the one that follows first: the least number by which the sum stays least -/
def nxL (D : jD) (N s : Nat) : Nat := (fsI (fun a => mfL D s a && decide ((pc8 s + 1) * wgL D a + bhS D N (adB s a) = bhS D N s)) N).toNat
def glL (D : jD) (N : Nat) : Nat → Nat → List Nat
  | 0, _ => []
  | n + 1, s => nxL D N s :: glL D N n (adB s (nxL D N s))
theorem nx_at (hN : N ≤ 8) (hw : ∀ a, wgL D a ≤ 9) (hnd : ∀ a, a < N → ndL D a < 2 ^ a) {s : Nat} (hs : s < 2 ^ N - 1) : nxL D N s < N ∧ mfL D s (nxL D N s) = true ∧ (pc8 s + 1) * wgL D (nxL D N s) + bhS D N (adB s (nxL D N s)) = bhS D N s ∧ ∀ b, b < nxL D N s → ¬ (mfL D s b = true ∧ (pc8 s + 1) * wgL D b + bhS D N (adB s b) = bhS D N s) := by
  have hN2 : (2 : Nat) ^ N ≤ 2 ^ 8 := Nat.pow_le_pow_right (by decide) hN
  have hb := bhS_le (D := D) hN hw hnd (2 ^ N - 1 - s) s (Nat.le_refl _) (by omega)
  have hne : bhO D (bhS D N) s N ≠ FARr := by
    rw [← bhS_is hs]
    unfold FARr
    omega
  obtain ⟨a, a1, a2, a3⟩ := bhO_at hne
  rw [← bhS_is hs] at a3
  unfold nxL
  generalize hP : (fun a => mfL D s a && decide ((pc8 s + 1) * wgL D a + bhS D N (adB s a) = bhS D N s)) = P
  have hPa : ∀ b, P b = true ↔ (mfL D s b = true ∧ (pc8 s + 1) * wgL D b + bhS D N (adB s b) = bhS D N s) := by
    intro b
    rw [← hP]
    simp only [Bool.and_eq_true, decide_eq_true_eq]
  have h1 : fsI P N ≠ -1 := fun z => fsI_no.mp z a a1 ((hPa a).mpr ⟨a2, a3.symm⟩)
  have key : ∀ n : Nat, ∀ a : Nat, fsI P n = a → a < n ∧ P a = true ∧ ∀ b, b < a → ¬ P b = true := by
    intro n
    induction n with
    | zero => intro a h; simp [fsI] at h
    | succ n ih =>
      intro a h
      rw [fsI] at h
      by_cases hc : fsI P n = -1
      · rw [if_neg (by omega)] at h
        by_cases hp : P n = true
        · rw [if_pos hp] at h
          obtain rfl : n = a := by omega
          exact ⟨by omega, hp, fun b hb => fsI_no.mp hc b hb⟩
        · rw [if_neg hp] at h
          omega
      · rw [if_pos hc] at h
        have := ih a h
        exact ⟨by omega, this.2⟩
  have h2 := fsI_rg P N
  obtain ⟨x, hx⟩ := Int.eq_ofNat_of_zero_le (show 0 ≤ fsI P N by omega)
  have h3 := key N x hx
  rw [hx, Int.toNat_natCast]
  have h4 := (hPa x).mp h3.2.1
  exact ⟨h3.1, h4.1, h4.2, fun b hb z => h3.2.2 b hb ((hPa b).mpr z)⟩
end LOAD2
