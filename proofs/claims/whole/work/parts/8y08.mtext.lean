/-! What changes the reference: texts, feeding, undo -/
section MTEXT
variable {sc : jSc} {σ τ υ : jH} {D : jD} {b : Nat → Int} {N : Nat} {F e0 e1 R L : Int} {cd : lC} {u w : Nat → Int} {T : List (Nat → Int)} {im : List (List (Nat → Int))}
/-- the reference's cells -/
def Fz : Nat → Nat → Prop := fun r _ => 63 ≤ r ∧ r ≤ 101
/-- a refusal of a text's length -/
theorem MI.rt (h : MI σ b N F e0 e1 R D cd u L w T im) (hF : Fr (Mx2 (fun r k => r = 64 ∧ k = 1)) σ τ) (h64 : hi τ 64 1 = hi σ 64 1 + 1) : MI τ b N F e0 (e1 + 1) R D cd u L w T im := by
  obtain ⟨⟨a1, a2, a3⟩, ⟨b1, b2, b3⟩, c1, ⟨d1, d2⟩, ⟨f1, f2, f3⟩, g1, g2⟩ := h
  have e : ∀ r, (r = 65 ∨ r = 86 ∨ r = 88 ∨ r = 90 ∨ r = 101) → hi τ r = hi σ r := fun r hr => hF.ir (fun k => by unfold Mx2 Mx; omega)
  have f : ∀ k, (k = 2 ∨ k = 8 ∨ k = 48 ∨ k = 59 ∨ k = 47 ∨ k = 76) → hi τ 63 k = hi σ 63 k := fun k hk => hF.i (by unfold Mx2 Mx; omega)
  refine ⟨⟨?_, ?_, ?_⟩, ⟨?_, ?_, ?_⟩, MT_g c1 hF (fun r k p q => by unfold Mx2 Mx; omega) (fun k p q => by unfold Mx2 Mx; omega) (fun k => by unfold Mx2 Mx; omega) (fun k => by unfold Mx2 Mx; omega) (by unfold Mx2 Mx; omega), ⟨?_, ?_⟩, ⟨?_, ?_, ?_⟩, ?_, ?_⟩
  · rw [f 2 (by omega)]; exact a1
  · rw [e 65 (by omega)]; exact a2
  · rw [f 8 (by omega)]; exact a3
  · rw [hF.i (by unfold Mx2 Mx; omega)]; exact b1
  · rw [h64, b2]
  · rw [f 48 (by omega)]; exact b3
  · unfold BKm; rw [e 90 (by omega)]; exact d1
  · rw [f 59 (by omega)]; exact d2
  · unfold NWm; rw [e 86 (by omega)]; exact f1
  · rw [f 47 (by omega)]; exact f2
  · rw [e 88 (by omega)]; exact f3
  · rw [f 76 (by omega)]; exact g1
  · rw [e 101 (by omega)]; exact g2
/-- a text read: what stays -/
theorem MI.tx {b' : Nat → Int} {N' : Nat} {F' : Int} {cd' : lC} {u' : Nat → Int} {L' : Int} (h : MI σ b N F e0 e1 R D cd u L w T im) {S : Nat → Nat → Prop} (hF : Fr S σ τ) (hS : ∀ r k, S r k → ¬ (r = 64 ∨ r = 86 ∨ r = 88 ∨ r = 101 ∨ (72 ≤ r ∧ r ≤ 77) ∨ (r = 63 ∧ ((29 ≤ k ∧ k ≤ 35) ∨ k = 47 ∨ k = 48 ∨ k = 76)))) (hT : hi τ 63 2 = N' ∧ hi τ 65 = b' ∧ hi τ 63 8 = F') (hC : MC τ cd' ∧ cd'.length ≤ 150 ∧ (cd' = [] ∨ One cd' 21)) (hB : BKm τ u' ∧ hi τ 63 59 = L') : MI τ b' N' F' e0 e1 R D cd' u' L' w T im := by
  obtain ⟨⟨a1, a2, a3⟩, ⟨b1, b2, b3⟩, c1, ⟨d1, d2⟩, ⟨f1, f2, f3⟩, g1, g2⟩ := h
  have e : ∀ r, (r = 64 ∨ r = 86 ∨ r = 88 ∨ r = 101) → hi τ r = hi σ r := fun r hr => hF.ir (fun k z => hS _ _ z (by omega))
  have f : ∀ k, (k = 48 ∨ k = 47 ∨ k = 76) → hi τ 63 k = hi σ 63 k := fun k hk => hF.i (fun z => hS _ _ z (by omega))
  refine ⟨hT, ⟨?_, ?_, ?_⟩, ⟨hF.ok c1.1, RM_fr c1.2.1 hF (fun r k p q z => hS _ _ z (by omega)) (fun k p q z => hS _ _ z (by omega)), c1.2.2.1, hC⟩, hB, ⟨?_, ?_, ?_⟩, ?_, ?_⟩
  · rw [e 64 (by omega)]; exact b1
  · rw [e 64 (by omega)]; exact b2
  · rw [f 48 (by omega)]; exact b3
  · unfold NWm; rw [e 86 (by omega)]; exact f1
  · rw [f 47 (by omega)]; exact f2
  · rw [e 88 (by omega)]; exact f3
  · rw [f 76 (by omega)]; exact g1
  · rw [e 101 (by omega)]; exact g2
/-- a text told to the reference: refused, or read -/
def Qt (σ : jH) (P : Prop) (b : Nat → Int) (N : Nat) (F e0 e1 R : Int) (D : jD) (cd : lC) (u : Nat → Int) (L : Int) (w : Nat → Int) (T : List (Nat → Int)) (im : List (List (Nat → Int))) (G : jR → jH → Prop) (r : jR) (τ : jH) : Prop := Fr Fz σ τ ∧ ((P ∧ hi τ 63 0 = 0 ∧ G r τ) ∨ (¬ P ∧ r = rV (vI 0) ∧ hi τ 63 0 = 1 ∧ MI τ b N F e0 (e1 + 1) R D cd u L w T im))
theorem m_222k {n : Int} (h : MI σ b N F e0 e1 R D cd u L w T im) (hN : N ≤ 600) (hB : By b) (hn : -2147483648 ≤ n ∧ n ≤ 2147483647) : Ct sc 5 222 [vR 63, vI n] σ (Qt σ (0 ≤ n ∧ n ≤ 60 ∧ n ≤ N) b N F e0 e1 R D cd u L w T im (fun r τ => (∃ kd pl, pBk b n.toNat = .error (kd, pl) ∧ r = rV (vI (kd - 10)) ∧ MI τ b 0 pl e0 e1 R D cd u L w T im) ∨ (∃ u' c, pBk b n.toNat = .ok (u', c) ∧ r = rV (vI (c : Nat)) ∧ ((∀ x, x < 12 → -1 ≤ u' x ∧ u' x ≤ 6) → MI τ b 0 (-1) e0 e1 R D cd u' c w T im)))) := by
  have hb := h.1.2.1
  refine (m_222 h.ok h.1.1 hN (by rw [hb]; exact hB) hn).mono ?_
  rintro r τ (⟨g, rfl, t0, t64, hF⟩ | ⟨g, t0, t2, ⟨kd, pl, p1, rfl, t8, hF⟩ | ⟨u', c, p1, rfl, t8, hu, t59, hF⟩⟩)
  · exact ⟨hF.mono (fun r k z => by unfold Mx2 Mx at z; unfold Fz; omega), Or.inr ⟨by omega, rfl, t0, h.rt hF t64⟩⟩
  · rw [hb] at p1
    refine ⟨hF.mono (fun r k z => by unfold Mx2 Mx at z; unfold Fz; omega), Or.inl ⟨by omega, t0, Or.inl ⟨kd, pl, p1, rfl, h.tx hF (fun r k z => by unfold Mx2 Mx at z; omega) ⟨t2, by rw [hF.ir (fun k => by unfold Mx2 Mx; omega)]; exact hb, t8⟩ ⟨MC_fr h.2.2.1.2.2.2.1 hF (fun k => by unfold Mx2 Mx; omega) (fun k => by unfold Mx2 Mx; omega) (by unfold Mx2 Mx; omega), h.2.2.1.2.2.2.2⟩ ⟨?_, ?_⟩⟩⟩⟩
    · unfold BKm; rw [hF.ir (fun k => by unfold Mx2 Mx; omega)]; exact h.2.2.2.1.1
    · rw [hF.i (by unfold Mx2 Mx; omega)]; exact h.2.2.2.1.2
  · rw [hb] at p1
    refine ⟨hF.mono (fun r k z => by unfold Mx2 Mx at z; unfold Fz; omega), Or.inl ⟨by omega, t0, Or.inr ⟨u', c, p1, rfl, fun hrg => h.tx hF (fun r k z => by unfold Mx2 Mx at z; omega) ⟨t2, by rw [hF.ir (fun k => by unfold Mx2 Mx; omega)]; exact hb, t8⟩ ⟨MC_fr h.2.2.1.2.2.2.1 hF (fun k => by unfold Mx2 Mx; omega) (fun k => by unfold Mx2 Mx; omega) (by unfold Mx2 Mx; omega), h.2.2.1.2.2.2.2⟩ ⟨fun x hx => ⟨hu x hx, hrg x hx⟩, t59⟩⟩⟩⟩
theorem m_202k {n : Int} (h : MI σ b N F e0 e1 R D cd u L w T im) (hN : N ≤ 600) (hB : By b) (hn : -2147483648 ≤ n ∧ n ≤ 2147483647) : Ct sc 40 202 [vR 63, vI n] σ (Qt σ (0 ≤ n ∧ n ≤ 150 ∧ n ≤ N) b N F e0 e1 R D cd u L w T im (fun r τ => (∃ kd pl, pLaw b n.toNat = .error (kd, pl) ∧ r = rV (vI (kd - 10)) ∧ MI τ b 0 pl e0 e1 R D cd u L w T im) ∨ (∃ l, pLaw b n.toNat = .ok l ∧ r = rV (vI 1) ∧ MI τ b 0 (-1) e0 e1 R D l u L w T im))) := by
  have hb := h.1.2.1
  refine (m_202 h.ok h.1.1 hN (by rw [hb]; exact hB) hn).mono ?_
  rintro r τ (⟨g, rfl, t0, t64, hF⟩ | ⟨g, t0, t2, ⟨kd, pl, p1, rfl, t8, hF⟩ | ⟨l, p1, rfl, t8, hM, hF⟩⟩)
  · exact ⟨hF.mono (fun r k z => by unfold Mx2 Mx at z; unfold Fz; omega), Or.inr ⟨by omega, rfl, t0, h.rt hF t64⟩⟩
  · rw [hb] at p1
    refine ⟨hF.mono (fun r k z => by unfold Mx2 Mx at z; unfold Fz; omega), Or.inl ⟨by omega, t0, Or.inl ⟨kd, pl, p1, rfl, h.tx hF (fun r k z => by unfold Mx2 Mx at z; omega) ⟨t2, by rw [hF.ir (fun k => by unfold Mx2 Mx; omega)]; exact hb, t8⟩ ⟨MC_fr h.2.2.1.2.2.2.1 hF (fun k => by unfold Mx2 Mx; omega) (fun k => by unfold Mx2 Mx; omega) (by unfold Mx2 Mx; omega), h.2.2.1.2.2.2.2⟩ ⟨?_, ?_⟩⟩⟩⟩
    · unfold BKm; rw [hF.ir (fun k => by unfold Mx2 Mx; omega)]; exact h.2.2.2.1.1
    · rw [hF.i (by unfold Mx2 Mx; omega)]; exact h.2.2.2.1.2
  · rw [hb] at p1
    have hpo := pLaw_ok (show n.toNat ≤ 150 by omega) p1
    refine ⟨hF.mono (fun r k z => by unfold Mx2 Mx at z; unfold Fz; omega), Or.inl ⟨by omega, t0, Or.inr ⟨l, p1, rfl, h.tx hF (fun r k z => by unfold Mx2 Mx at z; omega) ⟨t2, by rw [hF.ir (fun k => by unfold Mx2 Mx; omega)]; exact hb, t8⟩ ⟨hM, hpo.2, Or.inr hpo.1⟩ ⟨?_, ?_⟩⟩⟩⟩
    · unfold BKm; rw [hF.ir (fun k => by unfold Mx2 Mx; omega)]; exact h.2.2.2.1.1
    · rw [hF.i (by unfold Mx2 Mx; omega)]; exact h.2.2.2.1.2
theorem m_194k {n : Int} (h : MI σ b N F e0 e1 R D cd u L w T im) (hN : N ≤ 600) (hB : By b) (hn : -2147483648 ≤ n ∧ n ≤ 2147483647) : Ct sc 8 194 [vR 63, vI n] σ (Qt σ (0 ≤ n ∧ n ≤ N) b N F e0 e1 R D cd u L w T im (fun r τ => (∃ kd pl, pcs b n.toNat 61 0 D0 0 = .error (kd, pl) ∧ r = rV (vI (kd - 10)) ∧ MI τ b 0 pl e0 e1 R D cd u L w T im) ∨ (∃ D', pcs b n.toNat 61 0 D0 0 = .ok D' ∧ r = rV (vI (D' 0 0)) ∧ MI τ b 0 (-1) e0 e1 0 D' [] (fun _ => -1) 0 (wz (D' 0 4)) [] []))) := by
  have hb := h.1.2.1
  refine (m_194 h.ok h.1.1 hN (by rw [hb]; exact hB) hn).mono ?_
  rintro r τ (⟨g, rfl, t0, t64, hF⟩ | ⟨g, t0, t2, ⟨kd, pl, p1, rfl, t8, hF⟩ | ⟨D', p1, rfl, t8, c1, c2, c3, c4, c5, c6, c7, c8, c9, hF⟩⟩)
  · exact ⟨hF.mono (fun r k z => by unfold Mx2 Mx at z; unfold Fz; omega), Or.inr ⟨by omega, rfl, t0, h.rt hF t64⟩⟩
  · rw [hb] at p1
    refine ⟨hF.mono (fun r k z => by unfold Mx2 Mx at z; unfold Fz; omega), Or.inl ⟨by omega, t0, Or.inl ⟨kd, pl, p1, rfl, h.tx hF (fun r k z => by unfold Mx2 Mx at z; omega) ⟨t2, by rw [hF.ir (fun k => by unfold Mx2 Mx; omega)]; exact hb, t8⟩ ⟨MC_fr h.2.2.1.2.2.2.1 hF (fun k => by unfold Mx2 Mx; omega) (fun k => by unfold Mx2 Mx; omega) (by unfold Mx2 Mx; omega), h.2.2.1.2.2.2.2⟩ ⟨?_, ?_⟩⟩⟩⟩
    · unfold BKm; rw [hF.ir (fun k => by unfold Mx2 Mx; omega)]; exact h.2.2.2.1.1
    · rw [hF.i (by unfold Mx2 Mx; omega)]; exact h.2.2.2.1.2
  · rw [hb] at p1
    refine ⟨hF.mono (fun r k z => by unfold Mx2 Mx Ss at z; unfold Fz; omega), Or.inl ⟨by omega, t0, Or.inr ⟨D', p1, rfl, ⟨t2, by rw [hF.ir (fun k => by unfold Mx2 Mx Ss; omega)]; exact hb, t8⟩, ⟨?_, ?_, c9⟩, ⟨hF.ok h.ok, c1, c2, ⟨by rw [c5]; rfl, fun i hi => by simp at hi⟩, by simp, Or.inl rfl⟩, ⟨fun x hx => ⟨c4 x hx, by show (-1 : Int) ≤ -1; omega, by show (-1 : Int) ≤ 6; omega⟩, c6⟩, ⟨c3, c7, trivial⟩, c8, fun i hi => by simp at hi⟩⟩⟩
    · rw [hF.i (by unfold Mx2 Mx Ss; omega)]; exact h.2.1.1
    · rw [hF.i (by unfold Mx2 Mx Ss; omega)]; exact h.2.1.2.1
end MTEXT
