/-! BEST: the class's table and the towns themselves -/
section BEST3
variable {D : jD} {N S : Nat}
theorem smI_swap (f : Nat → Nat → Int) (m : Nat) : ∀ n, smI (fun y => smI (f y) m) n = smI (fun i => smI (fun y => f y i) n) m
  | 0 => (smI_0 m).symm
  | n + 1 => by
    rw [smI, smI_swap f m n, ← smI_add]
    rfl
theorem smI_sq (f : Nat → Nat → Int) (h : ∀ i, f i i = 0) : ∀ n, smI (fun i => smI (f i) n) n = smI (fun i => smI (fun j => f i j + f j i) i) n
  | 0 => rfl
  | n + 1 => by
    have ih := smI_sq f h n
    have e1 : smI (fun i => smI (f i) (n + 1)) n = smI (fun i => smI (f i) n) n + smI (fun i => f i n) n := by
      rw [← smI_add]; rfl
    have e2 : smI (fun j => f n j + f j n) n = smI (f n) n + smI (fun j => f j n) n := smI_add _ _ n
    have e3 : smI (f n) (n + 1) = smI (f n) n + f n n := rfl
    have e4 : smI (fun i => smI (fun j => f i j + f j i) i) (n + 1) = smI (fun i => smI (fun j => f i j + f j i) i) n + smI (fun j => f n j + f j n) n := rfl
    rw [smI, e4, e1, ih, e2, e3, h n]
    omega
theorem kB {a b : Int} (ha : 0 ≤ a) : ∀ n : Nat, smI (fun y => if a ≤ (y : Int) ∧ ¬ b ≤ (y : Int) then (1 : Int) else 0) n = if a < b ∧ a < n then (if b ≤ n then b else n) - a else 0
  | 0 => by
    rw [if_neg (by omega)]; rfl
  | n + 1 => by
    rw [smI, kB ha n]
    repeat' split
    all_goals omega
def abD (x y : Int) : Int := if y < x then x - y else y - x
theorem PV_end {t : Nat → Nat → Int} {g : Nat → Int} {m : Nat} {p : Nat → Int} (hs : ∀ i j, i < m → j < m → t i j = t j i) (hp : ∀ i, i < m → 0 ≤ p i ∧ p i < 12) : PV t g m 12 (2 ^ m - 1) p = 1048576 * (smI (fun i => g (p i).toNat) m + smI (fun i => smI (fun j => t i j * abD (p i) (p j)) i) m) + smI (fun i => p i * ((16 ^ (4 - i) : Nat) : Int)) m := by
  have hbit : ∀ i, i < m → (2 ^ m - 1).testBit i = true := fun i hi => by rw [Nat.testBit_two_pow_sub_one]; simpa using hi
  have e1 : smI (tmB g p (2 ^ m - 1)) m = 1048576 * smI (fun i => g (p i).toNat) m + smI (fun i => p i * ((16 ^ (4 - i) : Nat) : Int)) m := by
    rw [← smI_mul, ← smI_add]
    refine smI_con (fun i hi => ?_)
    unfold tmB
    rw [if_pos (hbit i hi)]
    rw [Int.mul_comm (g _) 1048576]
  have e2 : smI (fun y => ctP t m (2 ^ m - 1) p y) 12 = smI (fun i => smI (fun j => t i j * abD (p i) (p j)) i) m := by
    have a1 : smI (fun y => ctP t m (2 ^ m - 1) p y) 12 = smI (fun y => smI (fun i => smI (fun j => t i j * (if p i ≤ (y : Int) ∧ ¬ p j ≤ (y : Int) then 1 else 0)) m) m) 12 := smI_con (fun y _ => smI_con (fun i hi => smI_con (fun j hj => by
      rw [hbit i hi, hbit j hj]
      by_cases hc : p i ≤ (y : Int) ∧ ¬ p j ≤ (y : Int)
      · rw [if_pos hc, if_pos ⟨⟨rfl, hc.1⟩, fun z => hc.2 z.2⟩, Int.mul_one]
      · rw [if_neg hc, if_neg (fun z => hc ⟨z.1.2, fun w => z.2 ⟨rfl, w⟩⟩), Int.mul_zero])))
    rw [a1, smI_swap (fun y i => smI (fun j => t i j * (if p i ≤ (y : Int) ∧ ¬ p j ≤ (y : Int) then 1 else 0)) m) m 12]
    have a2 : smI (fun i => smI (fun y => smI (fun j => t i j * (if p i ≤ (y : Int) ∧ ¬ p j ≤ (y : Int) then 1 else 0)) m) 12) m = smI (fun i => smI (fun j => t i j * (if p i < p j then p j - p i else 0)) m) m := smI_con (fun i hi => by
      rw [smI_swap (fun y j => t i j * (if p i ≤ (y : Int) ∧ ¬ p j ≤ (y : Int) then 1 else 0)) m 12]
      refine smI_con (fun j hj => ?_)
      rw [smI_mul (k := t i j) (f := fun y => if p i ≤ (y : Int) ∧ ¬ p j ≤ (y : Int) then 1 else 0) 12, kB (hp i hi).1]
      have h1 := hp i hi
      have h2 := hp j hj
      by_cases hc : p i < p j
      · rw [if_pos ⟨hc, by omega⟩, if_pos (by omega), if_pos hc]
      · rw [if_neg (fun z => hc z.1), if_neg hc])
    rw [a2, smI_sq (fun i j => t i j * (if p i < p j then p j - p i else 0)) (fun i => by rw [if_neg (by omega), Int.mul_zero])]
    refine smI_con (fun i hi => smI_con (fun j hj => ?_))
    rw [hs j i (by omega) hi, ← Int.mul_add]
    congr 1
    unfold abD
    by_cases h1 : p j < p i
    · rw [if_neg (by omega), if_pos h1, if_pos h1]; omega
    · rw [if_neg h1, if_neg h1]
      by_cases h2 : p i < p j
      · rw [if_pos h2]; omega
      · rw [if_neg h2]; omega
  unfold PV
  rw [e1, e2]
  omega
/-- the one that stands at a place among those told -/
def wiB (S i : Nat) : Nat → Nat
  | 0 => 0
  | n + 1 => if S.testBit n = true ∧ ixB S n = i then n else wiB S i n
theorem ix_lt {a b : Nat} (h : a < b) (ha : S.testBit a = true) : ixB S a < ixB S b := by
  have h1 := ixB_mono (S := S) (show a + 1 ≤ b by omega)
  rw [ixB, if_pos ha] at h1
  omega
theorem ix_inj {a b : Nat} (ha : S.testBit a = true) (hb : S.testBit b = true) (h : ixB S a = ixB S b) : a = b := by
  rcases Nat.lt_trichotomy a b with h1 | h1 | h1
  · have := ix_lt h1 ha; omega
  · exact h1
  · have := ix_lt h1 hb; omega
theorem wi_at {b : Nat} (hb : S.testBit b = true) : ∀ {n}, b < n → wiB S (ixB S b) n = b
  | 0, h => by omega
  | n + 1, h => by
    rw [wiB]
    split
    · rename_i h1
      exact ix_inj h1.1 hb h1.2
    · rename_i h1
      by_cases hbn : b = n
      · subst hbn; exact (h1 ⟨hb, rfl⟩).elim
      · exact wi_at hb (by omega)
theorem ix_ex {i : Nat} : ∀ {n}, i < ixB S n → ∃ b, b < n ∧ S.testBit b = true ∧ ixB S b = i
  | 0, h => by simp [ixB] at h
  | n + 1, h => by
    rw [ixB] at h
    by_cases h1 : i < ixB S n
    · obtain ⟨b, h2, h3⟩ := ix_ex h1
      exact ⟨b, by omega, h3⟩
    · by_cases hc : S.testBit n = true
      · rw [if_pos hc] at h
        exact ⟨n, by omega, hc, by omega⟩
      · rw [if_neg hc] at h; omega
theorem wi_ok {i n : Nat} (h : i < ixB S n) : wiB S i n < n ∧ S.testBit (wiB S i n) = true ∧ ixB S (wiB S i n) = i := by
  obtain ⟨b, h1, h2, h3⟩ := ix_ex h
  have := wi_at h2 h1
  rw [h3] at this
  rw [this]
  exact ⟨h1, h2, h3⟩
theorem sm_ix (f : Nat → Int) : ∀ n, n ≤ N → smI (fun b => if S.testBit b = true then f b else 0) n = smI (fun i => f (wiB S i N)) (ixB S n)
  | 0, _ => rfl
  | n + 1, h => by
    rw [smI, sm_ix f n (by omega), ixB]
    by_cases hc : S.testBit n = true
    · rw [if_pos hc, if_pos hc, smI, wi_at hc (by omega)]
    · rw [if_neg hc, if_neg hc, Nat.add_zero, Int.add_zero]
theorem cb_sm {d : Nat → Int} (hd : ∀ b, b < N → S.testBit b = true → 0 ≤ d b) : ∀ n, n ≤ N → (cbN N S d n : Int) + smI (fun b => if S.testBit b = true then d b * ((16 ^ (4 - ixB S b) : Nat) : Int) else 0) (N - n) = smI (fun b => if S.testBit b = true then d b * ((16 ^ (4 - ixB S b) : Nat) : Int) else 0) N
  | 0, _ => by simp [cbN]
  | n + 1, h => by
    rw [← cb_sm hd n (by omega), cbN, show N - n = (N - (n + 1)) + 1 by omega, smI]
    by_cases hc : S.testBit (N - (n + 1)) = true
    · rw [if_pos hc, if_pos hc, Int.natCast_add, Int.natCast_mul, Int.toNat_of_nonneg (hd _ (by omega) hc)]
      omega
    · rw [if_neg hc, if_neg hc]
      omega
/-- a town for all told, by the places among them -/
theorem PV_is (hD : WD D 61) (hN : N ≤ 8) {d : Nat → Int} (hv : VB N S d) : PV (fun i j => D 5 (8 * wiB S i N + wiB S j N)) (D 6) (ixB S N) 12 (2 ^ ixB S N - 1) (fun i => d (wiB S i N)) = 1048576 * FCb D S d N + cbN N S d N := by
  have hp : ∀ i, i < ixB S N → 0 ≤ d (wiB S i N) ∧ d (wiB S i N) < 12 := fun i hi => by
    have := wi_ok hi
    exact (hv.1 _ this.1).1 this.2.1
  rw [PV_end (fun i j hi hj => ?_) hp]
  · have e1 : (cbN N S d N : Int) = smI (fun i => d (wiB S i N) * ((16 ^ (4 - i) : Nat) : Int)) (ixB S N) := by
      have h1 := cb_sm (fun b hb hc => ((hv.1 b hb).1 hc).1) N (Nat.le_refl _)
      rw [Nat.sub_self, smI, Int.add_zero, sm_ix (fun b => d b * ((16 ^ (4 - ixB S b) : Nat) : Int)) N (Nat.le_refl _)] at h1
      rw [h1]
      exact smI_con (fun i hi => by rw [(wi_ok hi).2.2])
    have e2 : FCb D S d N = smI (fun i => D 6 (d (wiB S i N)).toNat) (ixB S N) + smI (fun i => smI (fun j => D 5 (8 * wiB S i N + wiB S j N) * abD (d (wiB S i N)) (d (wiB S j N))) i) (ixB S N) := by
      unfold FCb
      have h1 := sm_ix (S := S) (fun b => D 6 (d b).toNat + smI (ttC D d b) b) N (Nat.le_refl _)
      rw [show smI (adC D S d) N = smI (fun b => if S.testBit b = true then D 6 (d b).toNat + smI (ttC D d b) b else 0) N from rfl, h1, smI_add]
      congr 1
      refine smI_con (fun i hi => ?_)
      obtain ⟨w1, w2, w3⟩ := wi_ok hi
      have h2 : smI (ttC D d (wiB S i N)) (wiB S i N) = smI (fun b => if S.testBit b = true then ttC D d (wiB S i N) b else 0) (wiB S i N) := smI_con (fun b hb => by
        by_cases hc : S.testBit b = true
        · rw [if_pos hc]
        · rw [if_neg hc]
          unfold ttC
          rw [if_pos (Or.inr ((hv.1 b (by omega)).2 (by simpa using hc)))])
      rw [h2, sm_ix (N := N) (fun b => ttC D d (wiB S i N) b) _ (by omega), w3]
      refine smI_con (fun j hj => ?_)
      have h3 := hp i hi
      have h4 := hp j (by omega)
      unfold ttC abD
      rw [if_neg (by omega)]
    rw [e1, e2]
  · have h1 := wi_ok hi
    have h2 := wi_ok hj
    exact hD.2.2.2.1 _ _ (by omega) (by omega)
def BsO (D : jD) (N S : Nat) (d : Nat → Int) : Prop := VB N S d ∧ ∀ e, VB N S e → FCb D S d N < FCb D S e N ∨ (FCb D S d N = FCb D S e N ∧ cbN N S d N ≤ cbN N S e N)
/-- the table's last -/
def LBa (D : jD) (N S : Nat) : Int := LB (fun i j => D 5 (8 * wiB S i N + wiB S j N)) (D 6) (ixB S N) 12 (2 ^ ixB S N - 1)
theorem VB_ex (hN : N ≤ 8) : VB N S (fun b => if S.testBit b = true then (b : Int) else -1) := by
  refine ⟨fun b hb => ⟨fun h => ?_, fun h => ?_⟩, fun a b ha hb h1 h2 h3 => ?_⟩
  · simp only [h, ↓reduceIte]; omega
  · simp only [h, Bool.false_eq_true, ↓reduceIte]
  · simp only [h1, h2, ↓reduceIte] at h3; omega
theorem VB_vd {d : Nat → Int} (hv : VB N S d) : vdB (ixB S N) 12 (2 ^ ixB S N - 1) (fun i => d (wiB S i N)) := by
  refine ⟨fun i hi _ => ?_, fun i j hi hj _ _ h => ?_⟩
  · have := wi_ok hi
    exact (hv.1 _ this.1).1 this.2.1
  · have h1 := wi_ok hi
    have h2 := wi_ok hj
    have := hv.2 _ _ h1.1 h2.1 h1.2.1 h2.2.1 h
    rw [← h1.2.2, ← h2.2.2, this]
theorem best_is (hD : WD D 61) (hN : N ≤ 8) (h5 : ixB S N ≤ 5) : ∃ d, BsO D N S d ∧ LBa D N S = 1048576 * FCb D S d N + cbN N S d N := by
  have ht : ∀ i j, 0 ≤ (fun i j => D 5 (8 * wiB S i N + wiB S j N)) i j ∧ (fun i j => D 5 (8 * wiB S i N + wiB S j N)) i j ≤ 549 := fun i j => by
    have := hD.2.2.1 (8 * wiB S i N + wiB S j N)
    exact ⟨this.1, by show D 5 _ ≤ 549; omega⟩
  have h2 := Nat.two_pow_pos (ixB S N)
  have hall := LB_all h5 ht hD.2.2.2.2.2.1 12 (Nat.le_refl _) (2 ^ ixB S N - 1) (by omega)
  have hlo : ∀ e, VB N S e → LBa D N S ≤ 1048576 * FCb D S e N + cbN N S e N := fun e he => by
    have := hall.2 _ (VB_vd he)
    rw [PV_is hD hN he] at this
    exact this
  have hUN : LBa D N S ≠ UNR := by
    have h3 := hlo _ (VB_ex hN)
    have h4 := PV_rg h5 ht hD.2.2.2.2.2.1 (Nat.le_refl _) (VB_vd (VB_ex (S := S) hN))
    rw [PV_is hD hN (VB_ex hN)] at h4
    have : UNR = 4611686018427387904 := rfl
    omega
  rcases hall.1 with h | ⟨p, p1, p2⟩
  · exact (hUN h).elim
  · have hbit : ∀ i, i < ixB S N → (2 ^ ixB S N - 1).testBit i = true := fun i hi => by rw [Nat.testBit_two_pow_sub_one]; simpa using hi
    have hix : ∀ b, b < N → S.testBit b = true → ixB S b < ixB S N := fun b hb hc => ix_lt hb hc
    have hv : VB N S (fun b => if S.testBit b = true then p (ixB S b) else -1) := by
      refine ⟨fun b hb => ⟨fun h => ?_, fun h => ?_⟩, fun a b ha hb h1 h2 h3 => ?_⟩
      · simp only [h, ↓reduceIte]
        exact p1.1 _ (hix b hb h) (hbit _ (hix b hb h))
      · simp only [h, Bool.false_eq_true, ↓reduceIte]
      · simp only [h1, h2, ↓reduceIte] at h3
        exact ix_inj h1 h2 (p1.2 _ _ (hix a ha h1) (hix b hb h2) (hbit _ (hix a ha h1)) (hbit _ (hix b hb h2)) h3)
    have he : LBa D N S = 1048576 * FCb D S (fun b => if S.testBit b = true then p (ixB S b) else -1) N + cbN N S (fun b => if S.testBit b = true then p (ixB S b) else -1) N := by
      rw [← PV_is hD hN hv]
      refine Eq.trans p2 (PV_con (fun i hi _ => ?_))
      have := wi_ok hi
      simp only [this.2.1, this.2.2, ↓reduceIte]
    refine ⟨_, ⟨hv, fun e hve => ?_⟩, he⟩
    have h6 := hlo e hve
    have c1 := cb_lt h5 (fun b hb hc => (hv.1 b hb).1 hc) N (Nat.le_refl _)
    have c2 := cb_lt h5 (fun b hb hc => (hve.1 b hb).1 hc) N (Nat.le_refl _)
    rw [Nat.sub_self, show 16 ^ (5 - ixB S 0) = 1048576 from rfl] at c1 c2
    omega
/-- a digit of the order of towns -/
theorem cb_up (h5 : ixB S N ≤ 5) {d : Nat → Int} : ∀ b, b ≤ N → ∃ q, cbN N S d N = q * 16 ^ (5 - ixB S b) + cbN N S d (N - b)
  | 0, _ => ⟨0, by simp⟩
  | b + 1, h => by
    obtain ⟨q, hq⟩ := cb_up h5 (d := d) b (by omega)
    have hm := ixB_mono (S := S) h
    rw [show N - b = (N - (b + 1)) + 1 by omega, cbN, show N - (N - (b + 1) + 1) = b by omega] at hq
    rw [ixB] at hm ⊢
    by_cases hc : S.testBit b = true
    · rw [if_pos hc] at hq hm ⊢
      refine ⟨q * 16 + (d b).toNat, ?_⟩
      rw [hq, show 5 - ixB S b = (4 - ixB S b) + 1 by omega, show 5 - (ixB S b + 1) = 4 - ixB S b by omega, Nat.pow_succ, Nat.add_mul, Nat.mul_assoc q 16, Nat.mul_comm 16]
      omega
    · rw [if_neg hc] at hq ⊢
      exact ⟨q, by rw [hq, Nat.zero_add]; rfl⟩
theorem cb_dig (h5 : ixB S N ≤ 5) {d : Nat → Int} (hv : VB N S d) {b : Nat} (hb : b < N) (hc : S.testBit b = true) (X : Nat) : (X * 1048576 + cbN N S d N) / 16 ^ (4 - ixB S b) % 16 = (d b).toNat := by
  obtain ⟨q, hq⟩ := cb_up h5 (d := d) b (by omega)
  have hl := cb_lt h5 (fun b hb hc => (hv.1 b hb).1 hc) (N - (b + 1)) (by omega)
  have hi := ix_lt hb hc
  have hd := (hv.1 b hb).1 hc
  rw [show N - (N - (b + 1)) = b + 1 by omega, ixB, if_pos hc, show 5 - (ixB S b + 1) = 4 - ixB S b by omega] at hl
  rw [show N - b = (N - (b + 1)) + 1 by omega, cbN, show N - (N - (b + 1) + 1) = b by omega, if_pos hc] at hq
  have e : 1048576 = 16 ^ ixB S b * 16 * 16 ^ (4 - ixB S b) := by
    rw [← Nat.pow_succ, ← Nat.pow_add, show ixB S b + 1 + (4 - ixB S b) = 5 by omega]
  rw [hq, e, show 5 - ixB S b = (4 - ixB S b) + 1 by omega, Nat.pow_succ]
  generalize (16 : Nat) ^ (4 - ixB S b) = w at *
  generalize (16 : Nat) ^ ixB S b = v at *
  have e2 : X * (v * 16 * w) + (q * (w * 16) + ((d b).toNat * w + cbN N S d (N - (b + 1)))) = cbN N S d (N - (b + 1)) + w * ((X * v + q) * 16 + (d b).toNat) := by
    rw [Nat.mul_add, Nat.add_mul, Nat.mul_add, Nat.mul_comm w (d b).toNat]
    rw [show X * (v * 16 * w) = w * (X * v * 16) by rw [Nat.mul_comm w, Nat.mul_assoc X v 16, Nat.mul_assoc X (v * 16) w], show q * (w * 16) = w * (q * 16) by rw [Nat.mul_left_comm]]
    omega
  rw [e2, Nat.add_mul_div_left _ _ (by omega), Nat.div_eq_of_lt hl]
  omega
theorem BsO_one (h5 : ixB S N ≤ 5) {d e : Nat → Int} (hd : BsO D N S d) (he : BsO D N S e) : FCb D S d N = FCb D S e N ∧ ∀ b, b < N → d b = e b := by
  have h1 := hd.2 e he.1
  have h2 := he.2 d hd.1
  have hc : cbN N S d N = cbN N S e N := by omega
  refine ⟨by omega, fun b hb => ?_⟩
  cases hS : S.testBit b with
  | false => rw [(hd.1.1 b hb).2 hS, (he.1.1 b hb).2 hS]
  | true =>
    have h3 := cb_dig h5 hd.1 hb hS 0
    have h4 := cb_dig h5 he.1 hb hS 0
    rw [hc, h4] at h3
    have h6 := (hd.1.1 b hb).1 hS
    have h7 := (he.1.1 b hb).1 hS
    omega
end BEST3
