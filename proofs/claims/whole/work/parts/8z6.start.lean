/-! The joint state at first -/
section START
variable {sc : jSc} {σ τ : jH} {g : Nat → Nat → Int}
theorem WD61 : WD D0 61 := WD_mono WD0 (by decide)
theorem I58 (k : Nat) (hk : k ≠ 6) : lkI I_cl 58 k = 0 := by
  show (if 58 = 58 ∧ 6 ≤ k ∧ k < 7 then (8 : Int) else lkI I_cl.tail 58 k) = 0
  rw [if_neg (by omega)]
  exact lkI_no (by decide) k
set_option maxRecDepth 20000 in
theorem Jn1 (hM : MdR g τ) (hg : Lz g) : Jn 1 (hal τ 1 1) := by
  obtain ⟨hs, hP, hI, hL, mR, m86, m90, m42, m59, m47, m76, m48, m2, m8, m64, m65⟩ := hM
  have es : hsh (hal τ 1 1) = okSh := by rw [hsh_al, hs]; rfl
  have eln : (hsh τ).length = 102 := by rw [hs]; rfl
  have ei : ∀ r, r ≤ 101 → hi (hal τ 1 1) r = hi τ r := fun r hr => funext fun k => by rw [hi_al, if_neg (by omega)]
  have el : ∀ r, r ≤ 101 → hl (hal τ 1 1) r = hl τ r := fun r hr => funext fun k => by rw [hl_al, if_neg (by omega)]
  have ep : ∀ r, r ≤ 101 → hp (hal τ 1 1) r = hp τ r := fun r hr => funext fun k => by rw [hp_al, if_neg (by omega)]
  have hi0 : ∀ r k, r ≤ 62 → ¬ (3 ≤ r ∧ r ≤ 5) → hi (hal τ 1 1) r k = lkI I_cl r k := fun r k a b => by rw [ei r (by omega), hI r k a, if_neg b]
  have hig : ∀ r, 3 ≤ r → r ≤ 5 → hi (hal τ 1 1) r = g r := fun r a b => funext fun k => by rw [ei r (by omega), hI r k (by omega), if_pos ⟨a, b⟩]
  have hp0 : ∀ r k, r ≤ 101 → hp (hal τ 1 1) r k = lkP P_all r k := fun r k a => by rw [ep r a]; exact hP r k
  have nI : ∀ r, r ≤ 62 → ¬ (3 ≤ r ∧ r ≤ 5) → I_cl.all (fun x => x.1 != r) = true → ∀ k, hi (hal τ 1 1) r k = 0 := fun r a b c k => by rw [hi0 r k a b]; exact lkI_no c k
  have hO : Ok (hal τ 1 1) := ⟨by rw [es]; exact fun i q h => h, fun x hx => by
    have h1 : x.1 ≤ 101 := by
      have : ∀ x ∈ okPt, x.1 ≤ 101 := by decide
      exact this x hx
    rw [hp0 _ _ h1]; exact P_all_ok x hx⟩
  have m0 : ∀ r k, 63 ≤ r → r ≤ 101 → hi (hal τ 1 1) r k = hi τ r k := fun r k _ b => by rw [ei r b]
  generalize hal τ 1 1 = υ at *
  have hOW : OW υ 58 := ⟨Or.inr (Or.inl rfl), oS58 hO, oS59 hO, oS60 hO, oS61 hO, oS62 hO, oP58_0 hO, oP58_1 hO, oP58_2 hO, oP58_3 hO⟩
  have hTW := TW_wz hOW WD61 (fun a ha => by rw [hi0 _ _ (by omega) (by omega)]; revert a; decide) (fun a ha => by rw [hi0 _ _ (by omega) (by omega)]; revert a; decide) (fun a ha => by rw [hi0 _ _ (by omega) (by omega)]; revert a; decide) (by rw [hi0 _ _ (by omega) (by omega)]; rfl) (fun k hk => by rw [hi0 _ _ (by omega) (by omega)]; exact I58 k hk)
  have d0 : ∀ k, D0 0 k = if k = 4 then 8 else if k = 5 then 5 else 0 := fun k => by unfold D0; simp
  have dr : ∀ r k, r ≠ 0 → D0 r k = 0 := fun r k h => by unfold D0; rw [if_neg (by omega), if_neg (by omega)]
  refine ⟨fun _ => 0, 0, -1, 0, 0, 0, D0, [], 1, fun _ => -1, 0, wz (D0 0 4), [], [], ⟨hO, ⟨?_, by omega, ?_, ?_, ?_⟩, ⟨?_, ?_, ?_⟩, ⟨34, Or.inl rfl, ?_, ?_, OT_A hO, ?_, WD61⟩, ⟨?_, ?_, by omega, by simp [okd, lX, lU], rfl⟩, ⟨fun x hx => ⟨?_, by show (-1 : Int) ≤ -1; omega, by show (-1 : Int) ≤ 6; omega⟩, ?_⟩, ⟨Or.inl ?_, Or.inl ?_, Or.inl ?_⟩, ⟨by simp, by simp, 58, ?_, ⟨hTW.1, hTW.2, WW_wz WD61, Or.inl rfl, ?_⟩, ?_, ?_⟩, ?_, ⟨by simp, Mk.refl _⟩, fun i h => absurd h (Nat.not_lt_zero _)⟩, ⟨⟨?_, ?_, ?_⟩, ⟨?_, ?_, ?_⟩, ⟨hO, ?_, WD61, ⟨?_, fun i h => absurd h (Nat.not_lt_zero _)⟩, by simp, Or.inl rfl⟩, ⟨fun x hx => ⟨?_, by show (-1 : Int) ≤ -1; omega, by show (-1 : Int) ≤ 6; omega⟩, ?_⟩, ⟨fun j hj => ?_, ?_, trivial⟩, ?_, fun i h => absurd h (Nat.not_lt_zero _)⟩, by omega, ?_⟩
  · rw [hi0 1 1 (by omega) (by omega)]; rfl
  · intro j; rw [nI 2 (by omega) (by omega) (by decide)]; omega
  · exact funext fun k => nI 2 (by omega) (by omega) (by decide) k
  · rw [hi0 1 7 (by omega) (by omega)]; rfl
  · exact nI 0 (by omega) (by omega) (by decide) 14
  · exact nI 0 (by omega) (by omega) (by decide) 15
  · exact nI 0 (by omega) (by omega) (by decide) 13
  · rw [hp0 0 9 (by omega)]; rfl
  · rw [hp0 0 10 (by omega)]; rfl
  · have z : ∀ r k, 35 ≤ r → r ≤ 45 → hi υ r k = 0 := fun r k a b => by
      rw [hi0 r k (by omega) (by omega)]
      have : ∀ r, r < 46 → 35 ≤ r → I_cl.all (fun x => x.1 != r) = true := by decide
      exact lkI_no (this r (by omega) a) k
    refine ⟨⟨?_, ?_, ?_, ?_, ?_, ?_, ?_⟩, fun a ha => absurd ha (by rw [d0]; simp), fun a ha => ?_, fun j hj => ?_, fun j hj => ?_, fun a ha => absurd ha (by rw [d0]; simp), ?_⟩
    · rw [hi0 34 9 (by omega) (by omega)]; rfl
    · rw [hi0 34 10 (by omega) (by omega)]; rfl
    · rw [hi0 34 11 (by omega) (by omega)]; rfl
    · rw [z _ _ (by omega) (by omega)]; rfl
    · rw [hi0 34 12 (by omega) (by omega)]; rfl
    · rw [hi0 34 13 (by omega) (by omega)]; rfl
    · rw [hi0 34 14 (by omega) (by omega)]; rfl
    · rw [z _ _ (by omega) (by omega), if_neg (by rw [d0]; simp)]
    · rw [z _ _ (by omega) (by omega), dr _ _ (by omega)]
    · rw [z _ _ (by omega) (by omega), dr _ _ (by omega)]
    · refine ⟨fun v hv => absurd hv (by rw [d0]; simp), fun i hv => absurd hv (by rw [d0]; simp; omega), fun m => ⟨?_, ?_⟩⟩
      · rintro ⟨i, h1, -⟩
        exact absurd h1 (by rw [d0]; simp)
      · rintro ⟨i, h1, -⟩
        exact absurd h1 (by rw [d0]; simp)
  · exact hg υ (hig 3 (by omega) (by omega)) (hig 4 (by omega) (by omega))
  · intro i hi'
    have z := nI 8 (by omega) (by omega) (by decide) i
    rw [z]
    refine ⟨by omega, by omega, fun a x n f d _ _ _ _ _ _ _ h3 => ?_⟩
    split at h3 <;> omega
  · rw [hi0 10 x (by omega) (by omega)]; revert x; decide
  · exact nI 9 (by omega) (by omega) (by decide) 2
  · exact nI 22 (by omega) (by omega) (by decide) 1
  · rw [hi0 24 2 (by omega) (by omega)]; rfl
  · rw [hi0 18 4 (by omega) (by omega)]; rfl
  · rw [hp0 0 11 (by omega)]; rfl
  · rw [hi0 58 9 (by omega) (by omega)]; rfl
  · intro p hp'
    rw [hp0 58 10 (by omega)] at hp'
    cases hp'
  · show hp υ 58 10 = none
    rw [hp0 58 10 (by omega)]; rfl
  · exact nI 0 (by omega) (by omega) (by decide) 12
  · rw [m0 63 2 (by omega) (by omega)]; exact m2
  · exact funext fun k => by rw [m0 65 k (by omega) (by omega)]; exact m65 k
  · rw [m0 63 8 (by omega) (by omega)]; exact m8
  · rw [m0 64 0 (by omega) (by omega)]; exact m64 0
  · rw [m0 64 1 (by omega) (by omega)]; exact m64 1
  · rw [m0 63 48 (by omega) (by omega)]; exact m48
  · unfold RM
    rw [ei 63 (by omega), ei 72 (by omega), ei 73 (by omega), ei 74 (by omega), ei 75 (by omega), ei 76 (by omega), ei 77 (by omega)]
    exact mR
  · rw [m0 63 42 (by omega) (by omega)]; exact m42
  · rw [m0 90 x (by omega) (by omega)]; exact m90 x hx
  · rw [m0 63 59 (by omega) (by omega)]; exact m59
  · rw [m0 86 j (by omega) (by omega)]; exact m86 j hj
  · rw [m0 63 47 (by omega) (by omega)]; exact m47
  · rw [m0 63 76 (by omega) (by omega)]; exact m76
  · rw [es]
    exact ⟨by decide, by decide +kernel⟩
end START
