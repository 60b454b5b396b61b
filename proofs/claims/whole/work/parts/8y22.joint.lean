/-! The class and the reference side by side -/
section JOINT
variable {sc : jSc} {σ τ υ μ : jH} {D : jD} {b : Nat → Int} {N n : Nat} {F e0 e1 R V L : Int} {cd : lC} {u w w' : Nat → Int} {T : List (Nat → Int)} {im : List (List (Nat → Int))}
/-- how many slots -/
def szc (k : Nat × Nat) : Nat := match k.1 with
  | 0 => k.2
  | 1 => k.2
  | 2 => k.2
  | c + 3 => match a_cl[c]? with
    | some q => if q.2.2 = 0 then 6 else q.2.2
    | none => 0
def szH : List (Nat × Nat) → Nat
  | [] => 0
  | k :: t => szc k + szH t
theorem szH_app : ∀ (a b : List (Nat × Nat)), szH (a ++ b) = szH a + szH b
  | [], b => by simp [szH]
  | x :: t, b => by simp [szH, szH_app t b, Nat.add_assoc]
theorem szc_is (σ : jH) (r : Nat) (k : Nat × Nat) : a_sz (j_cell σ r k) = szc k := by
  obtain ⟨x, n⟩ := k
  match x with
  | 0 => rfl
  | 1 => rfl
  | 2 => rfl
  | c + 3 => rfl
theorem szm : ∀ (l : List (Nat × Nat)) (f : Nat → Nat × Nat → AC), (∀ i k, a_sz (f i k) = szc k) → a_hsz (l.mapIdx f) = szH l
  | [], f, h => rfl
  | x :: t, f, h => by
    rw [List.mapIdx_cons, a_hsz, szH, h, szm t _ (fun i k => h (i + 1) k)]
theorem szH_is (σ : jH) : a_hsz (j_h σ) = szH (hsh σ) := szm _ _ (fun i k => szc_is σ i k)
def ShB (n : Nat) (l : List (Nat × Nat)) : Prop := l.length ≤ 103 + 5 * n ∧ szH l ≤ 20000 + 60 * n
theorem ShB.up {l : List (Nat × Nat)} (h : ShB n l) : ShB (n + 1) l := by unfold ShB at *; omega
/-- what is not the class's may change -/
theorem CI.far (h : CI σ μ b N F e0 e1 R D cd V u L T im) {S : Nat → Nat → Prop} (hF : Fr S σ τ) (hS : ∀ r k, S r k → 63 ≤ r ∧ r ≤ 102) : CI τ τ b N F e0 e1 R D cd V u L T im := by
  obtain ⟨h1, h2, h3, ⟨t, t1, t2, t3, t4⟩, h5, h6, h7, h8, h9⟩ := h
  have e : ∀ r, r < 63 → hi τ r = hi σ r := fun r hr => hF.ir (fun k z => by have := hS _ _ z; omega)
  have hc : ∀ {T : List (Nat → Int)} {o : Option Nat}, Chn σ D T o → Chn τ D T o := fun h => h.fr hF (fun r k hr z => by have := hS _ _ z; omega)
  refine ⟨hF.ok h1, ?_, ?_, ⟨t, t1, by rw [hF.hp]; exact t2, by rw [hF.hp]; exact t3, CX_fr2 t4 hF (fun r k a b z => by have := hS _ _ z; omega)⟩, LWc_fr h5 hF (fun k z => by have := hS _ _ z; omega) (fun k z => by have := hS _ _ z; omega) (fun k z => by have := hS _ _ z; omega), h6.fr hF (fun k z => by have := hS _ _ z; omega) (fun z => by have := hS _ _ z; omega), h7.fr hF (fun r k z => by have := hS _ _ z; omega), ?_, ?_⟩
  · unfold CIt; rw [e 1 (by omega), e 2 (by omega)]; exact h2
  · unfold CIe; rw [e 0 (by omega)]; exact h3
  · exact ⟨h8.1, h8.2.1, by rw [hF.hp]; exact hc h8.2.2⟩
  · exact ⟨by rw [e 0 (by omega)]; exact h9.1, ⟨h9.2.1.1, Mk.refl _⟩, fun i hi => ⟨(h9.2.2 i hi).1, by rw [hF.hp]; exact hc (h9.2.2 i hi).2⟩⟩
/-- what the class does, the reference does not see -/
theorem MI.cl (h : MI σ b N F e0 e1 R D cd u L w T im) (hO : Ok τ) (e : ∀ r, 63 ≤ r → r ≤ 101 → hi τ r = hi σ r) : MI τ b N F e0 e1 R D cd u L w T im := by
  obtain ⟨⟨a1, a2, a3⟩, ⟨b1, b2, b3⟩, ⟨c1, c2, c3, c4, c5⟩, ⟨d1, d2⟩, ⟨f1, f2, f3⟩, g1, g2⟩ := h
  have e63 := e 63 (by omega) (by omega)
  have e64 := e 64 (by omega) (by omega)
  have e65 := e 65 (by omega) (by omega)
  have e88 := e 88 (by omega) (by omega)
  have e101 := e 101 (by omega) (by omega)
  refine ⟨?_, ?_, ⟨hO, ?_, c3, ?_, c5⟩, ⟨?_, ?_⟩, ⟨?_, ?_, ?_⟩, ?_, ?_⟩
  · rw [e63, e65]; exact ⟨a1, a2, a3⟩
  · rw [e63, e64]; exact ⟨b1, b2, b3⟩
  · unfold RM
    rw [e63, e 72 (by omega) (by omega), e 73 (by omega) (by omega), e 74 (by omega) (by omega), e 75 (by omega) (by omega), e 76 (by omega) (by omega), e 77 (by omega) (by omega)]
    exact c2
  · unfold MC
    rw [e63, e 80 (by omega) (by omega), e 81 (by omega) (by omega)]
    exact c4
  · unfold BKm; rw [e 90 (by omega) (by omega)]; exact d1
  · rw [e63]; exact d2
  · unfold NWm; rw [e 86 (by omega) (by omega)]; exact f1
  · rw [e63]; exact f2
  · rw [e88]; exact f3
  · rw [e63]; exact g1
  · rw [e101]; exact g2
/-- towns that are one as far as it is looked at -/
theorem lbt_cg : ∀ {n}, (∀ i, i < n → w' i = w i) → lbt w' n = lbt w n
  | 0, _ => rfl
  | n + 1, h => by rw [lbt, lbt, lbt_cg (fun i hi => h i (by omega)), h n (by omega)]
theorem pkd_cg {d : Nat} (h : ∀ x, x < 12 → w' (24 + 12 * d + x) = w (24 + 12 * d + x)) : ∀ n, n ≤ 12 → pkd w' d n = pkd w d n
  | 0, _ => rfl
  | n + 1, hn => by rw [pkd, pkd, pkd_cg h n (by omega), h (11 - n) (by omega)]
theorem WW_cg (e : ∀ j, j < 171 → w' j = w j) (h : WW D w) : WW D w' := by
  refine ⟨fun a ha => ?_, fun a c ha hc => ?_, ?_, fun d x hd hx => ?_⟩
  · rw [e a (by omega), e (8 + a) (by omega), e (16 + a) (by omega), e 170 (by omega)]; exact h.1 a ha
  · rw [e a (by omega), e c (by omega), e (8 + a) (by omega), e (8 + c) (by omega)]; exact h.2.1 a c ha hc
  · rw [e 168 (by omega), e 169 (by omega), e 170 (by omega)]; exact h.2.2.1
  · rw [e 168 (by omega), e (24 + 12 * d + x) (by omega)]; exact h.2.2.2 d x hd hx
theorem TW_cg {q : Nat} {f : Int} (hD : WD D 61) (e : ∀ j, j < 171 → w' j = w j) (h : TW σ q D w f) : TW σ q D w' f := by
  have hd := hD.1
  refine ⟨h.1, fun a ha => ?_, fun a ha => ?_, fun x hx => ?_, ?_⟩
  · rw [e (8 + a) (by omega)]; exact h.2.1 a ha
  · rw [e a (by omega), e (16 + a) (by omega)]; exact h.2.2.1 a ha
  · rw [std_ext (w := w') (v := w) (fun a ha => by rw [e a (by omega), e (8 + a) (by omega)])]; exact h.2.2.2.1 x hx
  · rw [e 168 (by omega), e 169 (by omega), e 170 (by omega), lbt_cg (n := 8) (fun i hi => e i (by omega))]; exact h.2.2.2.2
theorem NT_cg {q : Nat} (e : ∀ j, j < 171 → w' j = w j) (h : NT σ q w) : NT σ q w' := fun d hd hd2 => by
  rw [e 168 (by omega)] at hd2
  rw [pkd_cg (fun x hx => e _ (by omega)) 12 (Nat.le_refl _)]
  exact h d hd hd2
theorem CI.cg (h : CI σ μ b N F e0 e1 R D cd V u L (w :: T) im) (e : ∀ j, j < 171 → w' j = w j) : CI σ μ b N F e0 e1 R D cd V u L (w' :: T) im := by
  obtain ⟨h1, h2, h3, h4, h5, h6, h7, h8, h9⟩ := h
  obtain ⟨q, q1, ⟨q2, q3, q4, q5, q6⟩, q7⟩ := h8.2.2
  have hD : WD D 61 := by obtain ⟨t, _, _, _, hX⟩ := h4; exact hX.2.2
  exact ⟨h1, h2, h3, h4, h5, h6, h7, ⟨by simp, h8.2.1, q, q1, ⟨TW_cg hD e q2, NT_cg e q3, WW_cg e q4, q5, q6⟩, q7⟩, h9⟩
/-- after so many calls -/
def Jn (n : Nat) (σ : jH) : Prop := ∃ (b : Nat → Int) (N : Nat) (F e0 e1 R : Int) (D : jD) (cd : lC) (V : Int) (u : Nat → Int) (L : Int) (w : Nat → Int) (T : List (Nat → Int)) (im : List (List (Nat → Int))), CI σ σ b N F e0 e1 R D cd V u L (w :: T) im ∧ MI σ b N F e0 e1 R D cd u L w T im ∧ V ≤ n ∧ ShB n (hsh σ)
theorem Jn.nm (h : Jn n σ) : ∃ (b : Nat → Int) (N : Nat) (F e0 e1 R : Int) (D : jD) (cd : lC) (V : Int) (u : Nat → Int) (L : Int) (w : Nat → Int) (T : List (Nat → Int)) (im : List (List (Nat → Int))), CI σ σ b N F e0 e1 R D cd V u L (w :: T) im ∧ MI σ b N F e0 e1 R D cd u L w T im ∧ w = cpf (hi σ 86) (hi σ 87) 171 ∧ V ≤ n ∧ ShB n (hsh σ) := by
  obtain ⟨b, N, F, e0, e1, R, D, cd, V, u, L, w, T, im, h1, h2, h3, h4⟩ := h
  have e : ∀ j, j < 171 → cpf (hi σ 86) (hi σ 87) 171 j = w j := fun j hj => by unfold cpf; rw [if_pos hj]; exact h2.2.2.2.2.1.1 j hj
  refine ⟨b, N, F, e0, e1, R, D, cd, V, u, L, cpf (hi σ 86) (hi σ 87) 171, T, im, h1.cg e, ?_, rfl, h3, h4⟩
  obtain ⟨a1, a2, a3, a4, ⟨a5, a6⟩, a7⟩ := h2
  exact ⟨a1, a2, a3, a4, ⟨fun j hj => by rw [e j hj]; exact a5 j hj, a6⟩, a7⟩
end JOINT
