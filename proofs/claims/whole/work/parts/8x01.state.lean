/-! What the class holds, as a whole -/
section STATE
variable {sc : jSc} {σ τ υ μ : jH} {D : jD} {t q : Nat} {S : Nat → Nat → Prop}
/-- one piece after another, where the first lets pass or refuses -/
theorem nd_g {P : Prop} {a b : jS} {C : jCR} {N B K : jN} {R : jR → jH → Prop} {L : List jV} (h : ∀ N1 : jN, (P → N1 L σ) → a sc C N1 B K R L σ) (h2 : P → b sc C N B K R L σ) : tSeq a b sc C N B K R L σ := by
  refine tSeq_g (fun L' τ => L' = L ∧ τ = σ ∧ P) (fun N1 hN1 => h N1 (fun p => hN1 _ _ ⟨rfl, rfl, p⟩)) ?_
  rintro L' τ ⟨rfl, rfl, p⟩
  exact h2 p
/-- a town and those before it -/
def Chn (σ : jH) (D : jD) : List (Nat → Int) → Option Nat → Prop
  | [], o => o = none
  | w :: st, o => ∃ q, o = some q ∧ (TW σ q D w 0 ∧ NT σ q w ∧ WW D w ∧ (q = 58 ∨ 103 ≤ q) ∧ hi σ q 9 = st.length) ∧ (∀ p, hp σ q 10 = some p → p + 4 < q) ∧ Chn σ D st (hp σ q 10)
theorem Chn.xt (hX : Xt σ τ) : ∀ {T : List (Nat → Int)} {o : Option Nat}, Chn σ D T o → Chn τ D T o
  | [], _, h => h
  | w :: st, _, h => by
    obtain ⟨q, h1, ⟨h2, h3, h4, h5, h6⟩, h7, h8⟩ := h
    have hq := sh_lt h2.1.2.1
    refine ⟨q, h1, ⟨h2.xt hX, h3.xt h2.1 hX, h4, h5, by rw [(hX.2 q hq).1]; exact h6⟩, ?_, ?_⟩
    · rw [(hX.2 q hq).2.2]; exact h7
    · rw [(hX.2 q hq).2.2]; exact Chn.xt hX h8
theorem Chn.fr (hF : Fr S σ τ) (hS : ∀ r k, (58 ≤ r ∧ r ≤ 62) ∨ 103 ≤ r → ¬ S r k) : ∀ {T : List (Nat → Int)} {o : Option Nat}, Chn σ D T o → Chn τ D T o
  | [], _, h => h
  | w :: st, _, h => by
    obtain ⟨q, h1, ⟨h2, h3, h4, h5, h6⟩, h7, h8⟩ := h
    refine ⟨q, h1, ⟨TW_fr h2 hF (fun r k a b => hS r k (by omega)), NT_fr h3 hF (fun k => hS _ k (by omega)), h4, h5, by rw [hF.i (hS q 9 (by omega))]; exact h6⟩, ?_, ?_⟩
    · rw [hF.hp]; exact h7
    · rw [hF.hp]; exact Chn.fr hF hS h8
/-- the tape -/
def CIt (σ : jH) (b : Nat → Int) (N : Nat) (F : Int) : Prop := hi σ 1 1 = N ∧ N ≤ 600 ∧ By (hi σ 2) ∧ hi σ 2 = b ∧ hi σ 1 7 = F
/-- what was refused -/
def CIe (σ : jH) (e0 e1 R : Int) : Prop := hi σ 0 14 = e0 ∧ hi σ 0 15 = e1 ∧ hi σ 0 13 = R
/-- the train told, and the place for the next -/
def CId (σ : jH) (D : jD) : Prop := ∃ t, (t = 34 ∨ t = 46) ∧ hp σ 0 9 = some t ∧ hp σ 0 10 = some (80 - t) ∧ CX σ t D
/-- the book -/
def CIb (σ : jH) (u : Nat → Int) (L : Int) : Prop := BKc σ u ∧ hi σ 9 2 = L
/-- what is kept of earlier questions -/
def CIk (σ : jH) (D : jD) : Prop := LDk σ D ∧ CRk σ D ∧ BSk σ D
/-- the towns -/
def CIw (σ : jH) (D : jD) (T : List (Nat → Int)) : Prop := T ≠ [] ∧ T.length ≤ 17 ∧ Chn σ D T (hp σ 0 11)
/-- the reference's cells, and how many cells there are, are as in μ -/
def Mk (μ σ : jH) : Prop := hsh σ = hsh μ ∧ ∀ r, 63 ≤ r → r ≤ 102 → hi σ r = hi μ r ∧ hl σ r = hl μ r ∧ hp σ r = hp μ r
theorem Mk.refl (σ : jH) : Mk σ σ := ⟨rfl, fun _ _ _ => ⟨rfl, rfl, rfl⟩⟩
theorem Mk.trans (h : Mk μ σ) (h2 : Mk σ τ) : Mk μ τ := ⟨h2.1.trans h.1, fun r a b => ⟨(h2.2 r a b).1.trans (h.2 r a b).1, (h2.2 r a b).2.1.trans (h.2 r a b).2.1, (h2.2 r a b).2.2.trans (h.2 r a b).2.2⟩⟩
theorem Mk.fr (h : Fr S σ τ) (hS : ∀ r k, 63 ≤ r → r ≤ 102 → ¬ S r k) : Mk σ τ := ⟨h.sh, fun r a b => ⟨h.ir (fun k => hS r k a b), h.lr (fun k => hS r k a b), by rw [h.hp]⟩⟩
/-- the images -/
def CIi (σ μ : jH) (D : jD) (im : List (List (Nat → Int))) : Prop := hi σ 0 12 = im.length ∧ (im.length ≤ 3 ∧ Mk μ σ) ∧ ∀ i, i < im.length → (im.getD i [] ≠ [] ∧ (im.getD i []).length ≤ 17) ∧ Chn σ D (im.getD i []) (hp σ 33 i)
def CI (σ μ : jH) (b : Nat → Int) (N : Nat) (F e0 e1 R : Int) (D : jD) (cd : lC) (V : Int) (u : Nat → Int) (L : Int) (T : List (Nat → Int)) (im : List (List (Nat → Int))) : Prop :=
  Ok σ ∧ CIt σ b N F ∧ CIe σ e0 e1 R ∧ CId σ D ∧ LWc σ D cd V ∧ CIb σ u L ∧ CIk σ D ∧ CIw σ D T ∧ CIi σ μ D im
variable {b : Nat → Int} {N : Nat} {F e0 e1 R V L : Int} {cd : lC} {u : Nat → Int} {T : List (Nat → Int)} {im : List (List (Nat → Int))}
/-- what a question may change -/
def Cq : Nat → Nat → Prop := fun r k => (r = 1 ∧ k ≠ 1 ∧ k ≠ 7) ∨ (3 ≤ r ∧ r ≤ 8) ∨ (11 ≤ r ∧ r ≤ 32) ∨ r = 45 ∨ r = 57
theorem CX_fr2 (h : CX σ t D) (hF : Fr S σ τ) (hS : ∀ r k, t ≤ r → r ≤ t + 10 → ¬ S r k) : CX τ t D := by
  have e : ∀ r, t ≤ r → r ≤ t + 10 → hi τ r = hi σ r := fun r a b => hF.ir (fun k => hS r k a b)
  refine ⟨?_, ?_, h.2.2⟩
  · unfold OT; rw [hF.sh, hF.hp]; exact h.1
  · unfold RDc
    rw [e t (by omega) (by omega), e (t + 1) (by omega) (by omega), e (t + 2) (by omega) (by omega), e (t + 3) (by omega) (by omega), e (t + 4) (by omega) (by omega), e (t + 5) (by omega) (by omega), e (t + 6) (by omega) (by omega), e (t + 7) (by omega) (by omega), e (t + 8) (by omega) (by omega), e (t + 9) (by omega) (by omega), e (t + 10) (by omega) (by omega)]
    exact h.2.1
theorem CI.fr (h : CI σ μ b N F e0 e1 R D cd V u L T im) (hF : Fr Cq σ τ) (hL : LWc τ D cd V) (hK : CIk τ D) : CI τ μ b N F e0 e1 R D cd V u L T im := by
  obtain ⟨h1, h2, h3, ⟨t, t1, t2, t3, t4⟩, h5, h6, h7, h8, h9⟩ := h
  have e : ∀ r, (r = 0 ∨ r = 2 ∨ r = 9 ∨ r = 10) → hi τ r = hi σ r := fun r hr => hF.ir (fun k => by unfold Cq; omega)
  have hc : ∀ {T : List (Nat → Int)} {o : Option Nat}, Chn σ D T o → Chn τ D T o := fun h => h.fr hF (fun r k hr => by unfold Cq; omega)
  refine ⟨hF.ok h1, ?_, ?_, ⟨t, t1, by rw [hF.hp]; exact t2, by rw [hF.hp]; exact t3, CX_fr2 t4 hF (fun r k a b => by unfold Cq; omega)⟩, hL, ?_, hK, ?_, ?_⟩
  · unfold CIt
    rw [e 2 (by omega), hF.i (r := 1) (k := 1) (by unfold Cq; omega), hF.i (r := 1) (k := 7) (by unfold Cq; omega)]
    exact h2
  · unfold CIe; rw [e 0 (by omega)]; exact h3
  · unfold CIb BKc; rw [e 9 (by omega), e 10 (by omega)]; exact h6
  · exact ⟨h8.1, h8.2.1, by rw [hF.hp]; exact hc h8.2.2⟩
  · exact ⟨by rw [e 0 (by omega)]; exact h9.1, ⟨h9.2.1.1, h9.2.1.2.trans (Mk.fr hF (fun r k a b => by unfold Cq; omega))⟩, fun i hi => ⟨(h9.2.2 i hi).1, by rw [hF.hp]; exact hc (h9.2.2 i hi).2⟩⟩
theorem CI.xt (h : CI σ μ b N F e0 e1 R D cd V u L T im) (hX : Xt σ τ) : CI τ τ b N F e0 e1 R D cd V u L T im := by
  obtain ⟨h1, h2, h3, ⟨t, t1, t2, t3, t4⟩, h5, h6, h7, h8, h9⟩ := h
  have hln := h1.len
  have e : ∀ r, r ≤ 102 → hi τ r = hi σ r := fun r hr => (hX.2 r (by omega)).1
  have el : ∀ r, r ≤ 102 → hl τ r = hl σ r := fun r hr => (hX.2 r (by omega)).2.1
  have ep : ∀ r, r ≤ 102 → hp τ r = hp σ r := fun r hr => (hX.2 r (by omega)).2.2
  refine ⟨hX.ok h1, ?_, ?_, ⟨t, t1, by rw [ep 0 (by omega)]; exact t2, by rw [ep 0 (by omega)]; exact t3, t4.xt hX⟩, ?_, ?_, ?_, ?_, ?_⟩
  · unfold CIt; rw [e 1 (by omega), e 2 (by omega)]; exact h2
  · unfold CIe; rw [e 0 (by omega)]; exact h3
  · unfold LWc LC KC; rw [e 3 (by omega), e 4 (by omega), e 8 (by omega)]; exact h5
  · unfold CIb BKc; rw [e 9 (by omega), e 10 (by omega)]; exact h6
  · unfold CIk LDk CRk BSk BsA; rw [e 22 (by omega), el 22 (by omega), e 24 (by omega), e 25 (by omega), e 18 (by omega), e 21 (by omega), el 18 (by omega)]; exact h7
  · exact ⟨h8.1, h8.2.1, by rw [ep 0 (by omega)]; exact h8.2.2.xt hX⟩
  · exact ⟨by rw [e 0 (by omega)]; exact h9.1, ⟨h9.2.1.1, Mk.refl _⟩, fun i hi => ⟨(h9.2.2 i hi).1, by rw [ep 33 (by omega)]; exact (h9.2.2 i hi).2.xt hX⟩⟩
/-- the counts and the steps refused may change -/
theorem CI.e (h : CI σ μ b N F e0 e1 R D cd V u L T im) {k : Nat} {z : Int} (hk : 13 ≤ k ∧ k ≤ 15) : CI (hsi σ 0 k z) μ b N F (if k = 14 then z else e0) (if k = 15 then z else e1) (if k = 13 then z else R) D cd V u L T im := by
  obtain ⟨h1, h2, h3, ⟨t, t1, t2, t3, t4⟩, h5, h6, h7, h8, h9⟩ := h
  have hF : Fr (fun r j => r = 0 ∧ j = k) σ (hsi σ 0 k z) := (Fr.refl _ _).si ⟨rfl, rfl⟩
  have e : ∀ r, r ≠ 0 → hi (hsi σ 0 k z) r = hi σ r := fun r hr => hi_si_ne hr
  have hc : ∀ {T : List (Nat → Int)} {o : Option Nat}, Chn σ D T o → Chn (hsi σ 0 k z) D T o := fun h => h.fr hF (fun r k hr => by omega)
  refine ⟨hF.ok h1, ?_, ?_, ⟨t, t1, t2, t3, CX_fr t4 hF (fun r k a b => by omega)⟩, LWc_fr h5 hF (fun _ => by omega) (fun _ => by omega) (fun _ => by omega), ?_, ?_, ?_, ?_⟩
  · unfold CIt; rw [e 1 (by omega), e 2 (by omega)]; exact h2
  · unfold CIe
    rw [hi_si, hi_si, hi_si, h3.1, h3.2.1, h3.2.2]
    refine ⟨?_, ?_, ?_⟩
    · by_cases hk1 : k = 14
      · rw [if_pos ⟨rfl, hk1.symm⟩, if_pos hk1]
      · rw [if_neg (fun z => hk1 z.2.symm), if_neg hk1]
    · by_cases hk1 : k = 15
      · rw [if_pos ⟨rfl, hk1.symm⟩, if_pos hk1]
      · rw [if_neg (fun z => hk1 z.2.symm), if_neg hk1]
    · by_cases hk1 : k = 13
      · rw [if_pos ⟨rfl, hk1.symm⟩, if_pos hk1]
      · rw [if_neg (fun z => hk1 z.2.symm), if_neg hk1]
  · unfold CIb BKc; rw [e 9 (by omega), e 10 (by omega)]; exact h6
  · unfold CIk LDk CRk BSk BsA; rw [e 22 (by omega), e 24 (by omega), e 25 (by omega), e 18 (by omega), e 21 (by omega)]; exact h7
  · exact ⟨h8.1, h8.2.1, hc h8.2.2⟩
  · exact ⟨by rw [hi_si, if_neg (by omega)]; exact h9.1, ⟨h9.2.1.1, h9.2.1.2.trans (Mk.fr hF (fun r k a b => by omega))⟩, fun i hi => ⟨(h9.2.2 i hi).1, hc (h9.2.2 i hi).2⟩⟩
theorem CI.no0 (h : CI σ μ b N F e0 e1 R D cd V u L T im) : CI (rfC σ 0) (rfC σ 0) b N F e0 (e1 + 1) R D cd V u L T im := by
  have h1 := h.e (k := 15) (z := hi σ 0 15 + 1) (by omega)
  rw [h.2.2.1.2.1] at h1
  have h2 := h1.xt (Xt_al _ 16 0)
  unfold rfC
  rw [h.2.2.1.2.1]
  exact h2
theorem CI.no1 (h : CI σ μ b N F e0 e1 R D cd V u L T im) : CI (rfC σ 1) (rfC σ 1) b N F (e0 + 1) e1 R D cd V u L T im := by
  have h1 := h.e (k := 14) (z := hi σ 0 14 + 1) (by omega)
  rw [h.2.2.1.1] at h1
  have h2 := h1.xt (Xt_al _ 17 0)
  unfold rfC
  rw [h.2.2.1.1]
  exact h2
end STATE
