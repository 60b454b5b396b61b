/-! BEST: towns by cells; the least cost, and of alike ones the first -/
section BEST
variable {D : jD} {N S : Nat}
/-- what a wagon adds to the cost of those ahead of it -/
def adC (D : jD) (S : Nat) (d : Nat → Int) (b : Nat) : Int := if S.testBit b = true then D 6 (d b).toNat + smI (ttC D d b) b else 0
def FCb (D : jD) (S : Nat) (d : Nat → Int) (n : Nat) : Int := smI (adC D S d) n
/-- how many are told ahead of b -/
def ixB (S : Nat) : Nat → Nat
  | 0 => 0
  | b + 1 => ixB S b + if S.testBit b = true then 1 else 0
/-- the order of towns: the last n wagons' part of it -/
def cbN (N S : Nat) (d : Nat → Int) : Nat → Nat
  | 0 => 0
  | n + 1 => (if S.testBit (N - (n + 1)) = true then (d (N - (n + 1))).toNat * 16 ^ (4 - ixB S (N - (n + 1))) else 0) + cbN N S d n
def VB (N S : Nat) (d : Nat → Int) : Prop := (∀ b, b < N → (S.testBit b = true → 0 ≤ d b ∧ d b < 12) ∧ (S.testBit b = false → d b = -1)) ∧ ∀ a b, a < N → b < N → S.testBit a = true → S.testBit b = true → d a = d b → a = b
theorem ttC_con {d e : Nat → Int} {a b : Nat} (h1 : d a = e a) (h2 : d b = e b) : ttC D d a b = ttC D e a b := by unfold ttC; rw [h1, h2]
theorem adC_con {d e : Nat → Int} {b : Nat} (h : ∀ x, x ≤ b → d x = e x) : adC D S d b = adC D S e b := by
  unfold adC
  rw [h b (Nat.le_refl _), smI_con (fun i hi => ttC_con (h b (Nat.le_refl _)) (h i (by omega)))]
theorem FCb_con {d e : Nat → Int} : ∀ {n}, (∀ x, x < n → d x = e x) → FCb D S d n = FCb D S e n := fun h => smI_con (fun b hb => adC_con (fun x hx => h x (by omega)))
theorem ixB_le : ∀ b, ixB S b ≤ b
  | 0 => Nat.le_refl _
  | b + 1 => by
    have := ixB_le b
    rw [ixB]
    split <;> omega
theorem ixB_mono {a b : Nat} (h : a ≤ b) : ixB S a ≤ ixB S b := by
  induction h with
  | refl => exact Nat.le_refl _
  | step _ ih => rw [ixB]; omega
theorem cb_lt (h5 : ixB S N ≤ 5) {d : Nat → Int} (hd : ∀ b, b < N → S.testBit b = true → 0 ≤ d b ∧ d b < 12) : ∀ n, n ≤ N → cbN N S d n < 16 ^ (5 - ixB S (N - n))
  | 0, _ => Nat.pow_pos (by decide)
  | n + 1, hn => by
    have ih := cb_lt h5 hd n (by omega)
    have he : N - n = (N - (n + 1)) + 1 := by omega
    have hix : ixB S (N - n) = ixB S (N - (n + 1)) + if S.testBit (N - (n + 1)) = true then 1 else 0 := by rw [he, ixB]
    have hm := ixB_mono (S := S) (show N - n ≤ N by omega)
    rw [cbN]
    by_cases hb : S.testBit (N - (n + 1)) = true
    · rw [if_pos hb] at hix ⊢
      have h1 := hd (N - (n + 1)) (by omega) hb
      rw [hix, show 5 - (ixB S (N - (n + 1)) + 1) = 4 - ixB S (N - (n + 1)) by omega] at ih
      rw [show 5 - ixB S (N - (n + 1)) = (4 - ixB S (N - (n + 1))) + 1 by omega, Nat.pow_succ]
      have h2 : (d (N - (n + 1))).toNat * 16 ^ (4 - ixB S (N - (n + 1))) ≤ 11 * 16 ^ (4 - ixB S (N - (n + 1))) := Nat.mul_le_mul_right _ (by omega)
      omega
    · rw [if_neg hb, Nat.add_zero] at hix
      rw [if_neg hb, ← hix, Nat.zero_add]
      exact ih
theorem adC_rg (hD : WD D 61) {d : Nat → Int} (hd : ∀ b, -1 ≤ d b ∧ d b ≤ 11) {b : Nat} (hb : b ≤ 8) : 0 ≤ adC D S d b ∧ adC D S d b ≤ 48400 := by
  unfold adC
  split
  · have h1 := hD.2.2.2.2.2.1 (d b).toNat
    have h2 := smI_rg (f := ttC D d b) (m := 6039) (fun i => ttC_rg hD hd b i) b
    omega
  · omega
theorem FCb_le (hD : WD D 61) {d : Nat → Int} (hd : ∀ b, -1 ≤ d b ∧ d b ≤ 11) {a n : Nat} (h : a ≤ n) (hn : n ≤ 8) : 0 ≤ FCb D S d a ∧ FCb D S d a ≤ FCb D S d n ∧ FCb D S d n ≤ 48400 * n := by
  have key : ∀ n : Nat, n ≤ 8 → 0 ≤ FCb D S d n ∧ FCb D S d n ≤ 48400 * n := by
    intro n
    induction n with
    | zero => intro _; exact ⟨Int.le_refl _, Int.le_refl _⟩
    | succ n ih =>
      intro hn
      have h1 := ih (by omega)
      have h2 := adC_rg (S := S) hD hd (b := n) (by omega)
      have e : FCb D S d (n + 1) = FCb D S d n + adC D S d n := rfl
      rw [e]
      omega
  have hmono : FCb D S d a ≤ FCb D S d n := by
    induction h with
    | refl => exact Int.le_refl _
    | step h ih =>
      rename_i n
      have h2 := adC_rg (S := S) hD hd (b := n) (by omega)
      have e : FCb D S d (n + 1) = FCb D S d n + adC D S d n := rfl
      have := ih (by omega)
      rw [Nat.succ_eq_add_one, e]
      omega
  exact ⟨(key a (by omega)).1, hmono, (key n hn).2⟩
/-- the best of the towns so far -/
def BstB (D : jD) (N S n : Nat) (L : Int) (C : (Nat → Int) → Prop) (Bo : Nat → Int) (L' : Int) (Bn : Nat → Int) : Prop :=
  (L' = L ∧ (∀ b, b < N → Bn b = Bo b) ∧ ∀ d, C d → L ≤ FCb D S d N) ∨ (∃ d, C d ∧ FCb D S d N < L ∧ L' = FCb D S d N ∧ (∀ b, b < N → Bn b = d b) ∧ ∀ e, C e → FCb D S d N < FCb D S e N ∨ (FCb D S d N = FCb D S e N ∧ cbN N S d n ≤ cbN N S e n))
def CmB (N S : Nat) (c : Nat → Int) (n : Nat) (d : Nat → Int) : Prop := VB N S d ∧ ∀ b, b < N - n → d b = c b
/-- a town for all of them, outside of it nothing -/
def nrm (N : Nat) (d : Nat → Int) : Nat → Int := fun b => if b < N then d b else -1
theorem VB_rg {d : Nat → Int} (h : VB N S d) : ∀ b, -1 ≤ nrm N d b ∧ nrm N d b ≤ 11 := fun b => by
  unfold nrm
  split
  · rename_i hb
    have := h.1 b hb
    cases hc : S.testBit b with
    | true => have := this.1 hc; omega
    | false => have := this.2 hc; omega
  · omega
theorem FCb_nrm {d : Nat → Int} {n : Nat} (hn : n ≤ N) : FCb D S (nrm N d) n = FCb D S d n := FCb_con (fun x hx => by unfold nrm; rw [if_pos (by omega)])
end BEST
