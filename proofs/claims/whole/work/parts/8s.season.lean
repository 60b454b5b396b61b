/-! A SEASON: what it does to a town -/
section SEASON
variable {sc : jSc} {σ : jH} {D : jD} {cd : lC} {w : Nat → Int} {f : Int} {e : Nat} {n : Int}
theorem m_208 (hn : D 0 0 = n) (hn8 : 0 ≤ n ∧ n ≤ 8) : ∀ (m o : Nat), 6 - o = m → o ≤ 6 → Q208 sc D e n o := by
  intro m
  induction m with
  | zero => intro o h ho; exact m_208s hn hn8 ho (fun z => by omega)
  | succ m ih => intro o h ho; exact m_208s hn hn8 ho (fun z => ih (o + 1) (by omega) (by omega))
/-- the first cell of the first n in which a wagon can be laid -/
def fstC (D : jD) (cd : lC) (w : Nat → Int) (f : Int) (a : Nat) : Nat → Option Nat
  | 0 => none
  | n + 1 => match fstC D cd w f a n with
    | some x => some x
    | none => if cnW D cd w f a n = true then some n else none
/-- a wagon is laid where it first can be -/
def lyO (D : jD) (cd : lC) (f : Int) (w : Nat → Int) (a : Nat) : Nat → Int := match fstC D cd w f a 12 with
  | some x => lyW w a x (lsW D cd w f a x)
  | none => w
def lyC (D : jD) (cd : lC) (f : Int) (w : Nat → Int) (a : Nat) : Nat := match fstC D cd w f a 12 with
  | some _ => 1
  | none => 0
/-- the first n are laid, one behind the other; how many -/
def lyA (D : jD) (cd : lC) (f : Int) (w : Nat → Int) : Nat → (Nat → Int) × Nat
  | 0 => (w, 0)
  | n + 1 => (lyO D cd f (lyA D cd f w n).1 n, (lyA D cd f w n).2 + lyC D cd f (lyA D cd f w n).1 n)
def tkO (D : jD) (w : Nat → Int) (a : Nat) : Nat → Int := if tkW D w a = true then tuW D w a else w
/-- the first n are taken up, from the last down -/
def tkA (D : jD) : Nat → (Nat → Int) → Nat → Int
  | 0, w => w
  | n + 1, w => tkA D n (tkO D w n)
/-- the town ahead of a day's end -/
def snE (D : jD) (cd : lC) (f : Int) (w : Nat → Int) : Nat → Int := tkA D (D 0 0).toNat (lyA D cd f w (D 0 0).toNat).1
def dyG (D : jD) (w : Nat → Int) : Nat → Int := if w 168 = 200 then w else dyW D w
/-- a town, the number drawn from, how often one was laid, days with frost, hours not used -/
abbrev jSn : Type := (Nat → Int) × Int × Nat × Nat × Nat
def drw (z : Int) : Int := z * 1103515245 + 12345
def frz (D : jD) (z : Int) : Nat := if j_rem (j_op 3 (j_op 7 z 16) 32767) 16 < D 0 6 then 1 else 0
def sn1 (D : jD) (cd : lC) (s : jSn) : jSn := (dyG D (snE D cd (frz D (drw s.2.1)) s.1), drw s.2.1, s.2.2.1 + (lyA D cd (frz D (drw s.2.1)) s.1 (D 0 0).toNat).2, s.2.2.2.1 + frz D (drw s.2.1), s.2.2.2.2 + (snE D cd (frz D (drw s.2.1)) s.1 169).toNat)
def snA (D : jD) (cd : lC) : Nat → jSn → jSn
  | 0, s => s
  | n + 1, s => sn1 D cd (snA D cd n s)
theorem fst_none {a : Nat} : ∀ {n : Nat}, fstC D cd w f a n = none ↔ ∀ x, x < n → ¬ cnW D cd w f a x = true
  | 0 => by simp [fstC]
  | n + 1 => by
    have ih := fst_none (a := a) (n := n)
    rw [fstC]
    cases h : fstC D cd w f a n with
    | some x =>
      simp only
      refine ⟨fun q => (by cases q), fun q => ?_⟩
      have := ih.mpr (fun x hx => q x (by omega))
      rw [h] at this
      cases this
    | none =>
      simp only
      have h2 := ih.mp h
      by_cases hc : cnW D cd w f a n = true
      · rw [if_pos hc]
        exact ⟨fun q => (by cases q), fun q => (q n (by omega) hc).elim⟩
      · rw [if_neg hc]
        refine ⟨fun _ x hx => ?_, fun _ => rfl⟩
        by_cases hxn : x = n
        · rw [hxn]; exact hc
        · exact h2 x (by omega)
theorem fst_at {a x : Nat} : ∀ {n : Nat}, fstC D cd w f a n = some x → x < n ∧ cnW D cd w f a x = true
  | 0, h => by simp [fstC] at h
  | n + 1, h => by
    rw [fstC] at h
    cases h2 : fstC D cd w f a n with
    | some y =>
      rw [h2] at h
      cases h
      have := fst_at h2
      exact ⟨by omega, this.2⟩
    | none =>
      rw [h2] at h
      simp only at h
      split at h
      · rename_i hc
        cases h
        exact ⟨by omega, hc⟩
      · cases h
theorem fst_go {a x n : Nat} (h1 : ∀ y, y < x → ¬ cnW D cd w f a y = true) (h2 : cnW D cd w f a x = true) : x < n → fstC D cd w f a n = some x := by
  induction n with
  | zero => intro h; omega
  | succ n ih =>
    intro h
    rw [fstC]
    by_cases hx : x = n
    · rw [fst_none.mpr (fun y hy => h1 y (by omega))]
      simp only
      rw [← hx, if_pos h2]
    · rw [ih (by omega)]
theorem WW_lyO {a : Nat} (hW : WW D w) (hD : WD D 61) (ha : (a : Int) < D 0 0) : WW D (lyO D cd f w a) := by
  unfold lyO
  have hd := hD.1
  cases h : fstC D cd w f a 12 with
  | none => exact hW
  | some x =>
    have h2 := fst_at h
    have h3 := cnW_iff.mp h2.2
    have h4 := lst_rg (fcW D w f a x) cd
    exact WW_ly hW ha (by omega) h2.1 h3.2.1 ⟨by show 0 ≤ lst _ _; omega, h3.2.2.2⟩
theorem WW_lyA (hW : WW D w) (hD : WD D 61) : ∀ n : Nat, (n : Int) ≤ D 0 0 → WW D (lyA D cd f w n).1
  | 0, _ => hW
  | n + 1, h => WW_lyO (WW_lyA hW hD n (by omega)) hD (by omega)
theorem WW_tkO {a : Nat} (hW : WW D w) (hD : WD D 61) (ha : (a : Int) < D 0 0) : WW D (tkO D w a) := by
  unfold tkO
  have hd := hD.1
  split
  · rename_i h
    have h1 := tkW_iff.mp h
    refine WW_tu hW (by omega) ⟨?_, h1.2.1⟩
    unfold hfW
    split <;> omega
  · exact hW
theorem WW_tkA (hD : WD D 61) : ∀ (n : Nat) {w : Nat → Int}, (n : Int) ≤ D 0 0 → WW D w → WW D (tkA D n w)
  | 0, _, _, hW => hW
  | n + 1, _, h, hW => WW_tkA hD n (by omega) (WW_tkO hW hD (by omega))
theorem WW_snE (hW : WW D w) (hD : WD D 61) : WW D (snE D cd f w) := by
  have hd := hD.1
  exact WW_tkA hD _ (by omega) (WW_lyA hW hD _ (by omega))
theorem WW_dyG (hW : WW D w) (hD : WD D 61) : WW D (dyG D w) := by
  unfold dyG
  split
  · exact hW
  · rename_i h; exact WW_dy hD hW h
theorem frz_le (z : Int) : frz D z ≤ 1 := by unfold frz; split <;> omega
theorem WW_snA {s : jSn} (hW : WW D s.1) (hD : WD D 61) : ∀ n, WW D (snA D cd n s).1
  | 0 => hW
  | n + 1 => WW_dyG (WW_snE (WW_snA hW hD n) hD) hD
theorem lyC_le {a : Nat} : lyC D cd f w a ≤ 1 := by unfold lyC; split <;> omega
theorem lyA_le : ∀ n, (lyA D cd f w n).2 ≤ n
  | 0 => Nat.le_refl _
  | n + 1 => by
    have := lyA_le n
    have := lyC_le (D := D) (cd := cd) (f := f) (w := (lyA D cd f w n).1) (a := n)
    show (lyA D cd f w n).2 + lyC D cd f (lyA D cd f w n).1 n ≤ n + 1
    omega
/-- what is counted stays small -/
theorem snA_le {s : jSn} (hW : WW D s.1) (hD : WD D 61) (h0 : s.2.2.1 = 0 ∧ s.2.2.2.1 = 0 ∧ s.2.2.2.2 = 0) : ∀ n, (snA D cd n s).2.2.1 ≤ 8 * n ∧ (snA D cd n s).2.2.2.1 ≤ n ∧ (snA D cd n s).2.2.2.2 ≤ 24 * n
  | 0 => by simp only [snA]; omega
  | n + 1 => by
    have ih := snA_le hW hD h0 n
    have hd := hD.1
    have h1 := lyA_le (D := D) (cd := cd) (f := frz D (drw (snA D cd n s).2.1)) (w := (snA D cd n s).1) (D 0 0).toNat
    have h2 := frz_le (D := D) (drw (snA D cd n s).2.1)
    have h3 := (WW_snE (cd := cd) (f := frz D (drw (snA D cd n s).2.1)) (WW_snA (cd := cd) hW hD n) hD).2.2.1
    simp only [snA, sn1]
    omega
end SEASON
