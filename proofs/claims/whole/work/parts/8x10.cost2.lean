/-! The class's sums of ties are the reference's -/
section COST2
variable {D : jD} {w : Nat → Int}
theorem tsW_is (hD : WD D 61) (hW : WW D w) {a x : Nat} : ∀ n : Nat, n ≤ 8 → tsW D w a x n = smI (ttC D (upw (fun b => w (8 + b)) a x) a) n
  | 0, _ => rfl
  | n + 1, h => by
    have hwn := hW.1 n (by omega)
    rw [tsW, smI, tsW_is hD hW n (by omega)]
    congr 1
    unfold ttC
    rw [upw_eq, upw_eq, if_pos rfl]
    by_cases hna : n = a
    · subst hna
      rw [hD.2.2.2.2.1 n, if_pos rfl]
      simp
    · rw [if_neg hna]
      by_cases h1 : w n = 1
      · have h2 := hwn.2.1 h1
        rw [if_pos h1, if_neg (show ¬ ((x : Int) = -1 ∨ w (8 + n) = -1) by omega)]
        congr 1
        by_cases h3 : w (8 + n) < (x : Int)
        · rw [if_pos h3, if_pos (by omega)]
        · rw [if_neg h3]
          by_cases h4 : 0 ≤ (x : Int) - w (8 + n)
          · rw [if_pos h4]; omega
          · rw [if_neg h4]; omega
      · have h2 := hwn.2.2.1 h1
        rw [if_neg h1, if_pos (Or.inr h2)]
theorem tsW_now (hD : WD D 61) (hW : WW D w) {a : Nat} (h : w (8 + a) ≠ -1) (h0 : -1 ≤ w (8 + a)) {n : Nat} (hn : n ≤ 8) : tsW D w a (w (8 + a)).toNat n = smI (ttC D (fun b => w (8 + b)) a) n := by
  rw [tsW_is hD hW n hn]
  congr 1
  have e : upw (fun b => w (8 + b)) a ((w (8 + a)).toNat : Int) = fun b => w (8 + b) := by
    funext b
    rw [upw_eq]
    by_cases hb : b = a
    · rw [if_pos hb, hb]; omega
    · rw [if_neg hb]
  rw [e]
theorem tiS_is (hD : WD D 61) (hW : WW D w) {a n : Nat} (ha : a < 8) (hn : n ≤ 8) : tiS D w n a = smI (ttC D (fun b => w (8 + b)) a) n := by
  unfold tiS
  by_cases h : w (8 + a) = -1
  · rw [if_pos h, smI_con (g := fun _ => 0) (fun b _ => by unfold ttC; rw [if_pos (Or.inl h)]), smI_0]
  · rw [if_neg h]
    have hwa := hW.1 a ha
    exact tsW_now hD hW h (by omega) hn
/-- the cost of the town of now, as the reference sums it -/
theorem cost_is (hD : WD D 61) (hW : WW D w) {n : Nat} (hn : n ≤ 8) : smI (tiS D w n) n / 2 + smI (grS D w) n = csC D (fun b => w (8 + b)) n := by
  unfold csC
  rw [smI_con (f := tiS D w n) (g := fun a => smI (ttC D (fun b => w (8 + b)) a) n) (fun a ha => tiS_is hD hW (by omega) hn), Int.add_comm]
  rfl
end COST2
