/-! Tools: depth, loops, what a call gives, rows of the cells -/
section TOOLS
theorem a_run_deep (sc : jSc) : ∀ (n d mi : Nat) (cd : List AI) (o : Nat) (L st : List Value) (h : AH) (r : ARes), a_run sc n d mi cd o L st h = some r → a_run sc n (d + 1) mi cd o L st h = some r := by
  intro n
  induction n with
  | zero =>
    intro d mi cd o L st h r hh
    rw [a_run] at hh
    cases hh
  | succ n ih =>
    intro d mi cd o L st h r hh
    rw [a_run] at hh ⊢
    cases hc : cd[o]? with
    | none => rw [hc] at hh; cases hh
    | some i =>
      rw [hc] at hh
      simp only at hh ⊢
      cases hs : a_step sc o i.2.1 i.2.2.2 L st h with
      | none => rw [hs] at hh; cases hh
      | some w =>
        rw [hs] at hh
        match w, hh with
        | .inl (o', L', st', h'), hh => exact ih _ _ _ _ _ _ _ _ hh
        | .inr (.inl r'), hh => exact hh
        | .inr (.inr (mj, args, rest)), hh =>
          simp only at hh ⊢
          match d, hh with
          | 0, hh => cases hh
          | d' + 1, hh =>
            simp only at hh ⊢
            split at hh
            · rename_i hlen
              rw [if_pos hlen]
              cases hq : a_run sc n d' mj (a_code mj) 0 (a_enter (a_maxL mj) args) [] h with
              | none => rw [hq] at hh; cases hh
              | some q =>
                rw [ih _ _ _ _ _ _ _ _ hq]
                rw [hq] at hh
                match q, hh with
                | (.inl v, h'), hh => exact ih _ _ _ _ _ _ _ _ hh
                | (.inr x, h'), hh =>
                  simp only at hh ⊢
                  split at hh
                  · split at hh
                    · exact hh
                    · split at hh
                      · rename_i hj
                        rw [if_pos hj]
                        exact ih _ _ _ _ _ _ _ _ hh
                      · cases hh
                  · cases hh
            · cases hh
theorem Cd_deep {sc : jSc} {d e m : Nat} {vs : List jV} {σ τ : jH} {r : jR} (h : Cd sc d m vs σ r τ) (hde : d ≤ e) : Cd sc e m vs σ r τ := by
  induction hde with
  | refl => exact h
  | step _ ih =>
    obtain ⟨h1, n, h2⟩ := ih
    exact ⟨h1, n, a_run_deep _ _ _ _ _ _ _ _ _ _ h2⟩
/-- what a method does, at most n deep: it ends, and P holds of the end -/
def Ct (sc : jSc) (n m : Nat) (vs : List jV) (σ : jH) (P : jR → jH → Prop) : Prop := ∃ r τ, Cd sc n m vs σ r τ ∧ P r τ
theorem Ct.mono {sc : jSc} {n m : Nat} {vs : List jV} {σ : jH} {P P' : jR → jH → Prop} (h : Ct sc n m vs σ P) (hp : ∀ r τ, P r τ → P' r τ) : Ct sc n m vs σ P' := by
  obtain ⟨r, τ, h1, h2⟩ := h
  exact ⟨r, τ, h1, hp _ _ h2⟩
theorem Ct.deep {sc : jSc} {n d m : Nat} {vs : List jV} {σ : jH} {P : jR → jH → Prop} (h : Ct sc n m vs σ P) (hn : n ≤ d) : Ct sc d m vs σ P := by
  obtain ⟨r, τ, h1, h2⟩ := h
  exact ⟨r, τ, Cd_deep h1 hn, h2⟩
theorem Ct.cal {sc : jSc} {n d m w : Nat} {vs : List jV} {σ : jH} {P : jR → jH → Prop} {Q : jV → jH → Prop} (h : Ct sc n m vs σ P) (hn : n ≤ d) (hp : ∀ r τ, P r τ → ∃ v, r = rV v ∧ jcat v = w ∧ Q v τ) : jcal (Cd sc d) m w vs Q σ := by
  obtain ⟨r, τ, h1, h2⟩ := h
  obtain ⟨v, rfl, hw, hq⟩ := hp _ _ h2
  exact ⟨v, τ, Cd_deep h1 hn, hw, hq⟩
theorem Ct.cav {sc : jSc} {n d m : Nat} {vs : List jV} {σ : jH} {P : jR → jH → Prop} {Q : jH → Prop} (h : Ct sc n m vs σ P) (hn : n ≤ d) (hp : ∀ r τ, P r τ → r = rN ∧ Q τ) : jcav (Cd sc d) m vs Q σ := by
  obtain ⟨r, τ, h1, h2⟩ := h
  obtain ⟨rfl, hq⟩ := hp _ _ h2
  exact ⟨τ, Cd_deep h1 hn, hq⟩
theorem Ct.cat2 {sc : jSc} {n d m : Nat} {vs : List jV} {σ : jH} {P : jR → jH → Prop} {Q : jH → Prop} {R : jR → jH → Prop} (h : Ct sc n m vs σ P) (hn : n ≤ d) (hp : ∀ r τ, P r τ → (r = rN ∧ Q τ) ∨ ∃ y, r = rT y ∧ R (rT y) τ) : jcat2 (Cd sc d) m vs Q R σ := by
  obtain ⟨r, τ, h1, h2⟩ := h
  exact ⟨r, τ, Cd_deep h1 hn, hp _ _ h2⟩
theorem Ct.newo {sc : jSc} {n d m : Nat} {vs : List jV} {σ : jH} {P : jR → jH → Prop} {Q : jH → Prop} (h : Ct sc n m vs σ P) (hn : n ≤ d) (hp : ∀ r τ, P r τ → r = rN ∧ Q τ) : ∃ τ', Cd sc d m vs σ rN τ' ∧ Q τ' := by
  obtain ⟨r, τ, h1, h2⟩ := h
  obtain ⟨rfl, hq⟩ := hp _ _ h2
  exact ⟨τ, Cd_deep h1 hn, hq⟩
/-- one that answers a value -/
theorem Ct.val {sc : jSc} {n d m w : Nat} {vs : List jV} {σ τ : jH} {v : jV} {Q : jV → jH → Prop} (h : Ct sc n m vs σ (fun r t => r = rV v ∧ t = τ)) (hn : n ≤ d) (hw : jcat v = w) (hq : Q v τ) : jcal (Cd sc d) m w vs Q σ :=
  h.cal hn (fun _ _ hh => by obtain ⟨rfl, rfl⟩ := hh; exact ⟨v, rfl, hw, hq⟩)
theorem Ct.void {sc : jSc} {n d m : Nat} {vs : List jV} {σ τ : jH} {Q : jH → Prop} {R : jR → jH → Prop} (h : Ct sc n m vs σ (fun r t => r = rN ∧ t = τ)) (hn : n ≤ d) (hq : Q τ) : jcat2 (Cd sc d) m vs Q R σ :=
  h.cat2 hn (fun _ _ hh => by obtain ⟨rfl, rfl⟩ := hh; exact Or.inl ⟨rfl, hq⟩)
/-- a method out of its tree -/
theorem Ct.of {mi : Nat} {s : jS} (h : CM mi s) {sc : jSc} {n : Nat} {vs L : List jV} {σ : jH} {P : jR → jH → Prop} (hL : jent (a_maxL mi) vs = L) (hn : (jlay vs).length ≤ a_maxL mi) (hs : s sc (Cd sc n) (fun _ _ => False) (fun _ _ => False) (fun _ _ => False) P L σ) : Ct sc (n + 1) mi vs σ P := CM_call h hL hn hs
theorem jlp_run {wc : List jV → (jH → Prop) → (jH → Prop) → jH → Prop} {wb : jN → jN → jN → List jV → jH → Prop} {wu : jN → List jV → jH → Prop} {N : jN} (I : Nat → jN)
    (hI : ∀ n (N' : jN) L σ, (∀ L τ, I n L τ → N' L τ) → I (n + 1) L σ → wc L (fun σ => wb (wu N') N (wu N') L σ) (fun σ => N L σ) σ) (h0 : ∀ L σ, I 0 L σ → False) : ∀ n L σ, I n L σ → jlp wc wb wu N n L σ
  | 0, L, σ, h => (h0 L σ h).elim
  | n + 1, L, σ, h => hI n _ L σ (jlp_run I hI h0 n) h
/-- a loop: I n holds ahead of a turn that has at most n - 1 behind it -/
theorem tLoop_run {c : jC} {b u : jS} {sc : jSc} {C : jCR} {N B K : jN} {R : jR → jH → Prop} {L : List jV} {σ : jH} (I : Nat → jN) (n : Nat) (h : I n L σ) (h0 : ∀ L σ, I 0 L σ → False)
    (hI : ∀ n (N' : jN) L σ, (∀ L τ, I n L τ → N' L τ) → I (n + 1) L σ → c sc C L (fun σ => b sc C (fun L σ => u sc C N' (fun _ _ => False) (fun _ _ => False) R L σ) N (fun L σ => u sc C N' (fun _ _ => False) (fun _ _ => False) R L σ) R L σ) (fun σ => N L σ) σ) : tLoop c b u sc C N B K R L σ :=
  ⟨n, jlp_run I (fun n N' L σ hn hi => hI n N' L σ hn hi) h0 n L σ h⟩
theorem jget_0 (a : jV) (t : List jV) : jget (a :: t) 0 = a := rfl
theorem jget_s (a : jV) (t : List jV) (j : Nat) : jget (a :: t) (j + 1) = jget t j := rfl
theorem jst_0 (a v : jV) (t : List jV) : jst (a :: t) 0 v = some (v :: t) := rfl
theorem jst_1 (a v : jV) (t : List jV) : jst (a :: t) 1 v = if jisL a = true then none else (jst t 0 v).map (fun m => a :: m) := rfl
theorem jst_s (a v : jV) (t : List jV) (j : Nat) : jst (a :: t) (j + 2) v = (jst t (j + 1) v).map (fun m => a :: m) := rfl
theorem jst2_eq (L : List jV) (j : Nat) (v : jV) : jst2 L j v = if j + 1 < L.length then (jst L j v).map (fun m => m.set (j + 1) vU) else none := rfl
theorem jisL_I (z : Int) : jisL (vI z) = false := rfl
theorem jisL_L (z : Int) : jisL (vL z) = true := rfl
theorem jisL_R (z : Nat) : jisL (vR z) = false := rfl
theorem jisL_S (z : Nat) : jisL (vS z) = false := rfl
theorem jisL_N : jisL vN = false := rfl
theorem jisL_U : jisL vU = false := rfl
theorem some_map {α β : Type} (f : α → β) (a : α) : (some a).map f = some (f a) := rfl
theorem ex_some {α : Type} {a : α} {P : α → Prop} : (∃ M, some a = some M ∧ P M) ↔ P a := ⟨fun ⟨_, h, p⟩ => by cases h; exact p, fun p => ⟨a, rfl, p⟩⟩
theorem if_ff {α : Sort _} (a b : α) : (if false = true then a else b) = b := rfl
theorem j_op0 (x y : Int) : j_op 0 x y = x + y := rfl
theorem j_op1 (x y : Int) : j_op 1 x y = x - y := rfl
theorem j_op2 (x y : Int) : j_op 2 x y = x * y := rfl
/-- a whole row of ints is put anew -/
def hsr (σ : jH) (r : Nat) (f : Nat → Int) : jH := (σ.1, (fun a b => if a = r then f b else σ.2.1 a b), σ.2.2)
theorem hsh_sr (σ : jH) (r : Nat) (f : Nat → Int) : hsh (hsr σ r f) = hsh σ := rfl
theorem hp_sr (σ : jH) (r : Nat) (f : Nat → Int) : hp (hsr σ r f) = hp σ := rfl
theorem hl_sr (σ : jH) (r : Nat) (f : Nat → Int) : hl (hsr σ r f) = hl σ := rfl
theorem hi_sr (σ : jH) (r : Nat) (f : Nat → Int) (a b : Nat) : hi (hsr σ r f) a b = if a = r then f b else hi σ a b := rfl
theorem hi_sr_eq (σ : jH) (r : Nat) (f : Nat → Int) : hi (hsr σ r f) r = f := by
  funext b
  rw [hi_sr, if_pos rfl]
theorem hi_sr_ne {σ : jH} {r a : Nat} {f : Nat → Int} (h : a ≠ r) : hi (hsr σ r f) a = hi σ a := by
  funext b
  rw [hi_sr, if_neg h]
theorem hi_si_eq (σ : jH) (r k : Nat) (z : Int) : hi (hsi σ r k z) r k = z := by rw [hi_si, if_pos ⟨rfl, rfl⟩]
theorem hi_si_ne {σ : jH} {r k a : Nat} {z : Int} (h : a ≠ r) : hi (hsi σ r k z) a = hi σ a := by
  funext b
  rw [hi_si, if_neg (fun q => h q.1)]
theorem hi_si_nk {σ : jH} {r k a b : Nat} {z : Int} (h : b ≠ k) : hi (hsi σ r k z) a b = hi σ a b := by rw [hi_si, if_neg (fun q => h q.2)]
theorem hl_sl_eq (σ : jH) (r k : Nat) (z : Int) : hl (hsl σ r k z) r k = z := by rw [hl_sl, if_pos ⟨rfl, rfl⟩]
theorem hl_sl_ne {σ : jH} {r k a : Nat} {z : Int} (h : a ≠ r) : hl (hsl σ r k z) a = hl σ a := by
  funext b
  rw [hl_sl, if_neg (fun q => h q.1)]
theorem hl_sl_nk {σ : jH} {r k a b : Nat} {z : Int} (h : b ≠ k) : hl (hsl σ r k z) a b = hl σ a b := by rw [hl_sl, if_neg (fun q => h q.2)]
theorem jH_ext {σ τ : jH} (h1 : hsh σ = hsh τ) (h2 : ∀ a b, hi σ a b = hi τ a b) (h3 : hl σ = hl τ) (h4 : hp σ = hp τ) : σ = τ := by
  obtain ⟨a, b, c, d⟩ := σ
  obtain ⟨a', b', c', d'⟩ := τ
  have e : b = b' := funext (fun x => funext (fun y => h2 x y))
  cases h1
  cases e
  cases h3
  cases h4
  rfl
theorem hsi_idem (σ : jH) (r k : Nat) (y z : Int) : hsi (hsi σ r k y) r k z = hsi σ r k z := jH_ext rfl (fun a b => by simp only [hi_si]; split <;> rfl) rfl rfl
theorem hsi_self (σ : jH) (r k : Nat) : hsi σ r k (hi σ r k) = σ := jH_ext rfl (fun a b => by
  rw [hi_si]
  split
  · rename_i h
    rw [h.1, h.2]
  · rfl) rfl rfl
theorem hsi_of {σ : jH} {r k : Nat} {z : Int} (h : hi σ r k = z) : hsi σ r k z = σ := by rw [← h, hsi_self]
theorem hsi_comm {σ : jH} {r k r' k' : Nat} {y z : Int} (h : r ≠ r' ∨ k ≠ k') : hsi (hsi σ r k y) r' k' z = hsi (hsi σ r' k' z) r k y := jH_ext rfl (fun a b => by
  simp only [hi_si]
  split
  · rename_i h1
    split
    · rename_i h2
      omega
    · rfl
  · rfl) rfl rfl
theorem hsr_idem (σ : jH) (r : Nat) (f g : Nat → Int) : hsr (hsr σ r f) r g = hsr σ r g := jH_ext rfl (fun a b => by simp only [hi_sr]; split <;> rfl) rfl rfl
theorem hsr_self (σ : jH) (r : Nat) : hsr σ r (hi σ r) = σ := jH_ext rfl (fun a b => by
  rw [hi_sr]
  split
  · rename_i h
    rw [h]
  · rfl) rfl rfl
theorem hsr_si (σ : jH) (r k : Nat) (f : Nat → Int) (z : Int) : hsi (hsr σ r f) r k z = hsr σ r (fun b => if b = k then z else f b) := jH_ext rfl (fun a b => by
  simp only [hi_sr, hi_si]
  by_cases h : a = r
  · subst h
    simp
  · simp [h]) rfl rfl
theorem hsi_sr (σ : jH) (r k : Nat) (z : Int) : hsi σ r k z = hsr σ r (fun b => if b = k then z else hi σ r b) := by
  rw [← hsr_si, hsr_self]
theorem jIx_of {σ : jH} {r k n : Nat} {x : Int} {P : Prop} (h : (hsh σ)[r]? = some (k, n)) (hn : n ≤ 1000000) : jIx σ r k x P ↔ (0 ≤ x ∧ x < n ∧ P) := by
  unfold jIx
  constructor
  · rintro ⟨m, h1, h2, h3, h4, h5⟩
    rw [h] at h1
    cases h1
    exact ⟨h3, h4, h5⟩
  · rintro ⟨h3, h4, h5⟩
    exact ⟨n, h, hn, h3, h4, h5⟩
/-- the index is there -/
theorem jIx_ok {σ : jH} {r k n : Nat} {x : Int} {P : Prop} (h : (hsh σ)[r]? = some (k, n)) (hn : n ≤ 1000000) (h0 : 0 ≤ x) (h1 : x < n) (hP : P) : jIx σ r k x P := ⟨n, h, hn, h0, h1, hP⟩
theorem w_id {z : Int} (h : -2147483648 ≤ z ∧ z ≤ 2147483647) : j_w z = z := j_w_id h.1 h.2
theorem w64_id {z : Int} (h : -9223372036854775808 ≤ z ∧ z ≤ 9223372036854775807) : j_w64 z = z := j_w64_id h.1 h.2
theorem ex_row {k m : Nat} {P : Nat → Prop} : (∃ n, some (k, m) = some (k, n) ∧ P n) ↔ P m := ⟨fun ⟨_, h, p⟩ => by cases h; exact p, fun p => ⟨m, rfl, p⟩⟩
theorem ex_row2 {k m : Nat} {P : Nat → Nat → Prop} : (∃ k' n, some (k, m) = some (k', n) ∧ P k' n) ↔ P k m := ⟨fun ⟨_, _, h, p⟩ => by cases h; exact p, fun p => ⟨k, m, rfl, p⟩⟩
end TOOLS
