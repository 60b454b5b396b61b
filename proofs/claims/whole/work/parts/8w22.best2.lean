/-! BEST as the class finds it: over the cells, for each set of those told -/
section BEST2
variable {t : Nat → Nat → Int} {g : Nat → Int} {m : Nat}
/-- the ties between a set and the others -/
def ctB (t : Nat → Nat → Int) (m T : Nat) : Int := smI (fun i => smI (fun j => if T.testBit i = true ∧ T.testBit j = false then t i j else 0) m) m
def ctP (t : Nat → Nat → Int) (m T : Nat) (p : Nat → Int) (y : Nat) : Int := smI (fun i => smI (fun j => if (T.testBit i = true ∧ p i ≤ y) ∧ ¬ (T.testBit j = true ∧ p j ≤ y) then t i j else 0) m) m
def tmB (g : Nat → Int) (p : Nat → Int) (T i : Nat) : Int := if T.testBit i = true then g (p i).toNat * 1048576 + p i * ((16 ^ (4 - i) : Nat) : Int) else 0
def PV (t : Nat → Nat → Int) (g : Nat → Int) (m x T : Nat) (p : Nat → Int) : Int := smI (tmB g p T) m + 1048576 * smI (fun y => ctP t m T p y) x
def vdB (m x T : Nat) (p : Nat → Int) : Prop := (∀ i, i < m → T.testBit i = true → 0 ≤ p i ∧ p i < x) ∧ ∀ i j, i < m → j < m → T.testBit i = true → T.testBit j = true → p i = p j → i = j
def stC (g : Nat → Int) (tb : Nat → Int) (x s i : Nat) : Int := tb (rmB s i) + g x * 1048576 + x * ((16 ^ (4 - i) : Nat) : Int)
def stO (g : Nat → Int) (tb : Nat → Int) (x s : Nat) : Nat → Int
  | 0 => tb s
  | n + 1 => if s.testBit n = true ∧ tb (rmB s n) ≠ UNR ∧ stC g tb x s n < stO g tb x s n then stC g tb x s n else stO g tb x s n
def goB (t : Nat → Nat → Int) (m : Nat) (tb : Nat → Int) (T : Nat) : Int := if tb T = UNR then UNR else tb T + ctB t m T * 1048576
def LB (t : Nat → Nat → Int) (g : Nat → Int) (m : Nat) : Nat → Nat → Int
  | 0 => fun T => if T = 0 then 0 else UNR
  | x + 1 => goB t m (fun T => stO g (LB t g m x) x T m)
theorem stO_at {tb : Nat → Int} {x s : Nat} : ∀ n, stO g tb x s n = tb s ∨ ∃ i, i < n ∧ s.testBit i = true ∧ tb (rmB s i) ≠ UNR ∧ stO g tb x s n = stC g tb x s i
  | 0 => Or.inl rfl
  | n + 1 => by
    rw [stO]
    split
    · rename_i h
      exact Or.inr ⟨n, by omega, h.1, h.2.1, rfl⟩
    · rcases stO_at n with h | ⟨i, h1, h2⟩
      · exact Or.inl h
      · exact Or.inr ⟨i, by omega, h2⟩
theorem stO_lo {tb : Nat → Int} {x s : Nat} : ∀ n, stO g tb x s n ≤ tb s ∧ ∀ i, i < n → s.testBit i = true → tb (rmB s i) ≠ UNR → stO g tb x s n ≤ stC g tb x s i
  | 0 => ⟨Int.le_refl _, fun i h => by omega⟩
  | n + 1 => by
    obtain ⟨h1, h2⟩ := stO_lo (tb := tb) (x := x) (s := s) n
    rw [stO]
    split
    · rename_i h
      have h3 := h.2.2
      refine ⟨by omega, fun i hi a b => ?_⟩
      by_cases hin : i = n
      · rw [hin]; exact Int.le_refl _
      · have := h2 i (by omega) a b; omega
    · rename_i h
      refine ⟨h1, fun i hi a b => ?_⟩
      by_cases hin : i = n
      · subst hin
        by_cases hc : stC g tb x s i < stO g tb x s i
        · exact (h ⟨a, b, hc⟩).elim
        · omega
      · exact h2 i (by omega) a b
theorem ctP_all {T : Nat} {p : Nat → Int} {y : Nat} (h : ∀ i, i < m → T.testBit i = true → p i ≤ y) : ctP t m T p y = ctB t m T := smI_con (fun i hi => smI_con (fun j hj => by
  have h1 := h i hi
  have h2 := h j hj
  cases ha : T.testBit i with
  | false => simp
  | true =>
    cases hb : T.testBit j with
    | false => simp [h1 ha]
    | true => simp [h2 hb]))
theorem ctP_con {T U : Nat} {p q : Nat → Int} {y : Nat} (h : ∀ i, i < m → ((T.testBit i = true ∧ p i ≤ y) ↔ (U.testBit i = true ∧ q i ≤ y))) : ctP t m T p y = ctP t m U q y := smI_con (fun i hi => smI_con (fun j hj => by simp only [h i hi, h j hj]))
theorem PV_con {x T : Nat} {p q : Nat → Int} (h : ∀ i, i < m → T.testBit i = true → p i = q i) : PV t g m x T p = PV t g m x T q := by
  unfold PV
  rw [smI_con (f := tmB g p T) (g := tmB g q T) (fun i hi => ?_), smI_con (f := fun y => ctP t m T p y) (g := fun y => ctP t m T q y) (fun y _ => ctP_con (fun i hi => and_congr_right (fun hb => by rw [h i hi hb])))]
  unfold tmB
  split
  · rename_i hb; rw [h i hi hb]
  · rfl
theorem PV_out {x T : Nat} {p : Nat → Int} (h : ∀ i, i < m → T.testBit i = true → p i < x) : PV t g m (x + 1) T p = PV t g m x T p + ctB t m T * 1048576 := by
  unfold PV
  rw [smI, ctP_all (fun i hi hb => by have := h i hi hb; omega)]
  omega
theorem PV_in {x T i : Nat} {p : Nat → Int} (hT : T < 256) (hi : i < m) (hb : T.testBit i = true) (hp : p i = x) (h : ∀ j, j < m → T.testBit j = true → p j ≤ x) : PV t g m (x + 1) T p = PV t g m x (rmB T i) p + g x * 1048576 + x * ((16 ^ (4 - i) : Nat) : Int) + ctB t m T * 1048576 := by
  unfold PV
  rw [smI, ctP_all h, smI_one (tmB g p T) i m, if_pos hi]
  have e1 : smI (fun j => if j = i then 0 else tmB g p T j) m = smI (tmB g p (rmB T i)) m := smI_con (fun j _ => by
    unfold tmB
    rw [rmB_bit hT]
    by_cases hj : j = i
    · rw [if_pos hj]; simp [hj]
    · rw [if_neg hj]; simp [hj])
  have e2 : smI (fun y => ctP t m T p y) x = smI (fun y => ctP t m (rmB T i) p y) x := smI_con (fun y hy => ctP_con (fun j hj => by
    rw [rmB_bit hT]
    by_cases hji : j = i
    · subst hji; simp; omega
    · simp [hji]))
  have e3 : tmB g p T i = g x * 1048576 + x * ((16 ^ (4 - i) : Nat) : Int) := by
    unfold tmB
    rw [if_pos hb, hp, Int.toNat_natCast]
  rw [e1, e2, e3]
  omega
theorem smI_rgn {f : Nat → Int} {b : Int} : ∀ n : Nat, (∀ i, i < n → 0 ≤ f i ∧ f i ≤ b) → 0 ≤ smI f n ∧ smI f n ≤ b * n
  | 0, _ => by simp [smI]
  | n + 1, h => by
    have ih := smI_rgn n (fun i hi => h i (by omega))
    have := h n (by omega)
    rw [smI, show b * ((n + 1 : Nat) : Int) = b * n + b by rw [Int.natCast_succ, Int.mul_add, Int.mul_one]]
    omega
theorem ctP_rg (hm : m ≤ 5) (ht : ∀ i j, 0 ≤ t i j ∧ t i j ≤ 549) {T : Nat} {p : Nat → Int} {y : Nat} : 0 ≤ ctP t m T p y ∧ ctP t m T p y ≤ 13725 := by
  have h1 : ∀ i, 0 ≤ smI (fun j => if (T.testBit i = true ∧ p i ≤ y) ∧ ¬ (T.testBit j = true ∧ p j ≤ y) then t i j else 0) m ∧ smI (fun j => if (T.testBit i = true ∧ p i ≤ y) ∧ ¬ (T.testBit j = true ∧ p j ≤ y) then t i j else 0) m ≤ 2745 := fun i => by
    have h2 := smI_rgn (f := fun j => if (T.testBit i = true ∧ p i ≤ y) ∧ ¬ (T.testBit j = true ∧ p j ≤ y) then t i j else 0) (b := 549) m (fun j _ => by
      have := ht i j
      split <;> omega)
    omega
  have h3 := smI_rgn (b := 2745) m (fun i _ => h1 i)
  unfold ctP
  omega
theorem ctB_rg (hm : m ≤ 5) (ht : ∀ i j, 0 ≤ t i j ∧ t i j ≤ 549) (T : Nat) : 0 ≤ ctB t m T ∧ ctB t m T ≤ 13725 := by
  have h := ctP_rg hm ht (T := T) (p := fun _ => 0) (y := 0)
  rw [ctP_all (fun i _ _ => by omega)] at h
  exact h
theorem p16 {i : Nat} : (16 : Nat) ^ (4 - i) ≤ 65536 := Nat.le_trans (Nat.pow_le_pow_right (by decide) (show 4 - i ≤ 4 by omega)) (by decide)
theorem PV_rg (hm : m ≤ 5) (ht : ∀ i j, 0 ≤ t i j ∧ t i j ≤ 549) (hg : ∀ x, 0 ≤ g x ∧ g x ≤ 9) {x T : Nat} {p : Nat → Int} (hx : x ≤ 12) (hv : vdB m x T p) : 0 ≤ PV t g m x T p ∧ PV t g m x T p ≤ 200000000000 := by
  have h1 := smI_rgn (f := tmB g p T) (b := 11000000) m (fun i hi => by
    unfold tmB
    split
    · rename_i hb
      have h2 := hv.1 i hi hb
      have h3 := hg (p i).toNat
      have h4 := p16 (i := i)
      generalize (16 : Nat) ^ (4 - i) = w at h4 ⊢
      have h5 : p i * (w : Int) ≤ 12 * (w : Int) := Int.mul_le_mul_of_nonneg_right (by omega) (by omega)
      have h6 : 0 ≤ p i * (w : Int) := Int.mul_nonneg (by omega) (by omega)
      omega
    · omega)
  have h2 := smI_rgn (f := fun y => ctP t m T p y) (b := 13725) x (fun y _ => ctP_rg hm ht)
  unfold PV
  omega
theorem vd_mono {x T : Nat} {p : Nat → Int} (h : vdB m x T p) : vdB m (x + 1) T p := ⟨fun i hi hb => by have := h.1 i hi hb; omega, h.2⟩
/-- the table holds the least of all ways -/
theorem LB_all (hm : m ≤ 5) (ht : ∀ i j, 0 ≤ t i j ∧ t i j ≤ 549) (hg : ∀ x, 0 ≤ g x ∧ g x ≤ 9) : ∀ x, x ≤ 12 → ∀ T, T < 2 ^ m → (LB t g m x T = UNR ∨ ∃ p, vdB m x T p ∧ LB t g m x T = PV t g m x T p) ∧ ∀ p, vdB m x T p → LB t g m x T ≤ PV t g m x T p
  | 0, _ => fun T hT => by
    have hz : ∀ p, PV t g m 0 0 p = 0 := fun p => by
      unfold PV
      rw [smI_con (g := fun _ => 0) (fun i _ => by unfold tmB; simp), smI_0]
      rfl
    by_cases h0 : T = 0
    · subst h0
      have e : LB t g m 0 0 = 0 := rfl
      rw [e]
      exact ⟨Or.inr ⟨fun _ => 0, ⟨fun i _ h => by simp at h, fun i j _ _ h => by simp at h⟩, (hz _).symm⟩, fun p _ => by rw [hz]; omega⟩
    · refine ⟨Or.inl (if_neg h0), fun p hp => ?_⟩
      obtain ⟨i, hi⟩ := Nat.exists_testBit_of_ne_zero h0
      have him : i < m := by
        by_cases h : i < m
        · exact h
        · rw [Nat.testBit_lt_two_pow (Nat.lt_of_lt_of_le hT (Nat.pow_le_pow_right (by decide) (by omega)))] at hi
          cases hi
      have := hp.1 i him hi
      omega
  | x + 1, hx => fun T hT => by
    have h5 : (2 : Nat) ^ m ≤ 2 ^ 5 := Nat.pow_le_pow_right (by decide) hm
    have hT2 : T < 256 := by omega
    have ih := LB_all hm ht hg x (by omega)
    have hct := ctB_rg hm ht T
    have hU : UNR = 4611686018427387904 := rfl
    have e : LB t g m (x + 1) T = if stO g (LB t g m x) x T m = UNR then UNR else stO g (LB t g m x) x T m + ctB t m T * 1048576 := rfl
    rw [e]
    have hrm : ∀ i, rmB T i < 2 ^ m := fun i => Nat.lt_of_le_of_lt (rmB_le T i) hT
    have hfin : ∀ U, U < 2 ^ m → ∀ p, vdB m x U p → LB t g m x U ≠ UNR := fun U hU2 p hp => by
      have h1 := (ih U hU2).2 p hp
      have h2 := PV_rg hm ht hg (by omega) hp
      omega
    constructor
    · by_cases hn : stO g (LB t g m x) x T m = UNR
      · exact Or.inl (if_pos hn)
      · rw [if_neg hn]
        refine Or.inr ?_
        rcases stO_at (g := g) (tb := LB t g m x) (x := x) (s := T) m with h | ⟨i, h1, h2, h3, h4⟩
        · rcases (ih T hT).1 with h6 | ⟨p, p1, p2⟩
          · exact (hn (by rw [h, h6])).elim
          · refine ⟨p, vd_mono p1, ?_⟩
            rw [PV_out (fun i hi hb => (p1.1 i hi hb).2), h, p2]
        · rcases (ih _ (hrm i)).1 with h6 | ⟨p, p1, p2⟩
          · exact (h3 h6).elim
          · have hq : ∀ j, j < m → T.testBit j = true → j ≠ i → 0 ≤ p j ∧ p j < x := fun j hj hb hji => p1.1 j hj (by rw [rmB_bit hT2, hb]; simp [hji])
            refine ⟨upw p i x, ⟨fun j hj hb => ?_, fun j k hj hk a b hjk => ?_⟩, ?_⟩
            · rw [upw_eq]
              by_cases hji : j = i
              · rw [if_pos hji]; omega
              · rw [if_neg hji]; have := hq j hj hb hji; omega
            · rw [upw_eq, upw_eq] at hjk
              by_cases hji : j = i
              · by_cases hki : k = i
                · omega
                · rw [if_pos hji, if_neg hki] at hjk; have := hq k hk b hki; omega
              · by_cases hki : k = i
                · rw [if_neg hji, if_pos hki] at hjk; have := hq j hj a hji; omega
                · rw [if_neg hji, if_neg hki] at hjk
                  exact p1.2 j k hj hk (by rw [rmB_bit hT2, a]; simp [hji]) (by rw [rmB_bit hT2, b]; simp [hki]) hjk
            · rw [PV_in hT2 h1 h2 (by rw [upw_eq, if_pos rfl]) (fun j hj hb => by
                rw [upw_eq]
                by_cases hji : j = i
                · rw [if_pos hji]; omega
                · rw [if_neg hji]; have := hq j hj hb hji; omega), h4]
              unfold stC
              rw [p2, PV_con (p := upw p i x) (q := p) (fun j hj hb => by
                rw [rmB_bit hT2] at hb
                rw [upw_eq, if_neg (fun z => by simp [z] at hb)])]
    · intro p hp
      have hlo := stO_lo (g := g) (tb := LB t g m x) (x := x) (s := T) m
      by_cases hex : ∃ i, i < m ∧ T.testBit i = true ∧ p i = x
      · obtain ⟨i, h1, h2, h3⟩ := hex
        have hp2 : vdB m x (rmB T i) p := ⟨fun j hj hb => by
          rw [rmB_bit hT2] at hb
          have hb2 : T.testBit j = true ∧ j ≠ i := by simpa using hb
          have h4 := hp.1 j hj hb2.1
          by_cases h6 : p j = x
          · exact (hb2.2 (hp.2 j i hj h1 hb2.1 h2 (by omega))).elim
          · omega, fun j k hj hk a b => hp.2 j k hj hk (by rw [rmB_bit hT2] at a; simp at a; exact a.1) (by rw [rmB_bit hT2] at b; simp at b; exact b.1)⟩
        have h6 := (ih _ (hrm i)).2 p hp2
        have h7 := hlo.2 i h1 h2 (hfin _ (hrm i) p hp2)
        have h8 := PV_rg hm ht hg (by omega) hp
        have h9 := PV_in (t := t) (g := g) hT2 h1 h2 h3 (fun j hj hb => by have := hp.1 j hj hb; omega)
        unfold stC at h7
        have h10 : stO g (LB t g m x) x T m ≠ UNR := by omega
        rw [if_neg h10]
        omega
      · have hlt : ∀ i, i < m → T.testBit i = true → p i < x := fun i hi hb => by
          have h1 := hp.1 i hi hb
          by_cases h2 : p i = x
          · exact (hex ⟨i, hi, hb, h2⟩).elim
          · omega
        have hp2 : vdB m x T p := ⟨fun i hi hb => ⟨(hp.1 i hi hb).1, hlt i hi hb⟩, hp.2⟩
        have h6 := (ih T hT).2 p hp2
        have h8 := PV_rg hm ht hg (by omega) hp2
        have h9 := PV_out (t := t) (g := g) hlt
        have h10 : stO g (LB t g m x) x T m ≠ UNR := by have := hlo.1; omega
        rw [if_neg h10]
        have := hlo.1
        omega
theorem LB_rg (hm : m ≤ 5) (ht : ∀ i j, 0 ≤ t i j ∧ t i j ≤ 549) (hg : ∀ x, 0 ≤ g x ∧ g x ≤ 9) {x T : Nat} (hx : x ≤ 12) (hT : T < 2 ^ m) : LB t g m x T = UNR ∨ (0 ≤ LB t g m x T ∧ LB t g m x T ≤ 200000000000) := by
  rcases (LB_all hm ht hg x hx T hT).1 with h | ⟨p, h1, h2⟩
  · exact Or.inl h
  · rw [h2]; exact Or.inr (PV_rg hm ht hg hx h1)
end BEST2
