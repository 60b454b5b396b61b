/-! Of what is read as a LAW: turns enough; pieces as they should be; the stack never runs over -/
section LWF
theorem pB_nz {r : Except pF (lC × Nat)} {f : lC → Nat → Except pF (lC × Nat)} (h1 : nz r) (h2 : ∀ l a, r = .ok (l, a) → nz (f l a)) : nz (pB r f) := by
  cases r with
  | error q => intro pl h; rw [pB_er] at h; exact h1 pl h
  | ok p => obtain ⟨l, a⟩ := p; rw [pB_ok]; exact h2 l a rfl
theorem pA_nz {r : Except pF (lC × Nat)} {l : lC} (h : nz r) : nz (pA l r) := by
  cases r with
  | error q => rw [pA_er]; exact h
  | ok p => obtain ⟨l, a⟩ := p; rw [pA_ok]; intro pl h; cases h
theorem pS_nz {b : Nat → Int} {e a : Nat} {c : Int} {f : Nat → Except pF (lC × Nat)} (h : sk b e a < e → nz (f (sk b e a + 1))) : nz (pS b e a c f) := by
  unfold pS
  split
  · rename_i h1
    exact h h1.1
  · intro pl h; cases h
theorem ok_nz {x : lC × Nat} : nz (.ok x) := fun _ h => by cases h
theorem er_nz {kd : Int} {pl : Nat} (h : kd ≠ 0) : nz (.error (kd, pl)) := fun _ q => by cases q; exact h rfl
theorem pNum_k {b : Nat → Int} {e a : Nat} {lo up : Int} {kd : Int} {pl : Nat} (h : pNum b e a lo up = .error (kd, pl)) : kd = 1 ∨ kd = 2 := by
  unfold pNum at h
  split at h
  · split at h
    · cases h
    · cases h; exact Or.inr rfl
  · cases h; exact Or.inl rfl
theorem pN_nz {b : Nat → Int} {e a : Nat} {lo up : Int} {f : Nat → Nat → Except pF (lC × Nat)} (h : ∀ x a', nz (f x a')) : nz (pN b e a lo up f) := by
  unfold pN
  split
  · exact h _ _
  · rename_i q hq
    obtain ⟨kd, pl⟩ := q
    exact er_nz (by have := pNum_k hq; omega)
/-- how many turns a mode needs beyond four a byte -/
def rk (m : Nat) : Nat := if m = 0 then 2 else if m = 2 then 1 else 0
theorem pL_nz (b : Nat → Int) (e : Nat) : ∀ f m o a, a ≤ e → 4 * (e - a) + rk m < f → nz (pL b e f m o a) := by
  intro f
  induction f with
  | zero => intro m o a ha hf; omega
  | succ f ih =>
    intro m o a ha hf
    have h1 := sk_ge (b := b) (e := e) (a := a)
    have h2 := sk_le (b := b) ha
    match m with
    | 0 =>
      rw [pL_0]
      simp only [rk] at hf
      refine pB_nz (ih 2 o a ha (by simp only [rk]; simp; simp at hf; omega)) (fun l a1 hl => pA_nz ?_)
      have k1 := pG_all b e f 2 o a ha l a1 hl
      exact ih 1 o a1 k1.2.1 (by simp only [rk]; simp; simp at hf; omega)
    | 1 =>
      rw [pL_1]
      simp only [rk] at hf
      simp at hf
      split
      · refine pB_nz (ih 2 o _ (by omega) (by simp only [rk]; simp; omega)) (fun l a1 hl => pA_nz ?_)
        have k1 := pG_all b e f 2 o _ (by omega) l a1 hl
        exact ih 1 o a1 k1.2.1 (by simp only [rk]; simp; omega)
      · split
        · refine pB_nz (ih 2 o _ (by omega) (by simp only [rk]; simp; omega)) (fun l a1 hl => pA_nz ?_)
          have k1 := pG_all b e f 2 o _ (by omega) l a1 hl
          exact ih 1 o a1 k1.2.1 (by simp only [rk]; simp; omega)
        · exact ok_nz
    | 2 =>
      rw [pL_2]
      simp only [rk] at hf
      simp at hf
      refine pB_nz (ih 4 o a ha (by simp only [rk]; simp; omega)) (fun l a1 hl => pA_nz ?_)
      have k1 := pG_all b e f 4 o a ha l a1 hl
      exact ih 3 o a1 k1.2.1 (by simp only [rk]; simp; omega)
    | 3 =>
      rw [pL_3]
      simp only [rk] at hf
      simp at hf
      split
      · refine pB_nz (ih 4 o _ (by omega) (by simp only [rk]; simp; omega)) (fun l a1 hl => pA_nz ?_)
        have k1 := pG_all b e f 4 o _ (by omega) l a1 hl
        exact ih 3 o a1 k1.2.1 (by simp only [rk]; simp; omega)
      · split
        · refine pB_nz (ih 4 o _ (by omega) (by simp only [rk]; simp; omega)) (fun l a1 hl => pA_nz ?_)
          have k1 := pG_all b e f 4 o _ (by omega) l a1 hl
          exact ih 3 o a1 k1.2.1 (by simp only [rk]; simp; omega)
        · exact ok_nz
    | m + 4 =>
      have hf' : 4 * (e - a) < f + 1 := by omega
      have h3 := rn_le (q := isL) (b := b) h2
      have h4 := rn_ge (q := isL) (b := b) (e := e) (a := sk b e a)
      rw [pL]
      split
      · exact pN_nz (fun x a' => ok_nz)
      · split
        · split
          · exact er_nz (by decide)
          · exact pB_nz (ih 0 (o + 1) _ (by omega) (by simp only [rk]; simp; omega)) (fun l a1 hl => pS_nz (fun _ => ok_nz))
        · split
          · exact er_nz (by decide)
          · split
            · exact ok_nz
            · split
              · exact er_nz (by decide)
              · refine pS_nz (fun g0 => ?_)
                have j0 := sk_ge (b := b) (e := e) (a := rn isL b e (sk b e a))
                refine pB_nz (ih 0 (o + 1) _ (by omega) (by simp only [rk]; simp; omega)) (fun l a1 hl => ?_)
                have k1 := pG_all b e f 0 (o + 1) _ (by omega) l a1 hl
                refine pS_nz (fun g1 => ?_)
                have j1 := sk_ge (b := b) (e := e) (a := a1)
                refine pB_nz (ih 0 (o + 1) _ (by omega) (by simp only [rk]; simp; omega)) (fun l a1 hl => ?_)
                exact pS_nz (fun _ => ok_nz)
/-- a piece as it should be -/
def wlp (x : Nat × Nat) : Prop := (x.1 = 0 ∧ x.2 ≤ 999) ∨ (x.1 = 1 ∧ x.2 ≤ 7) ∨ (2 ≤ x.1 ∧ x.1 ≤ 7 ∧ x.2 = 0)
def okd (m : Nat) : lC → Nat → Prop
  | [], _ => True
  | x :: l, d => if x.1 ≤ 1 then d < m ∧ okd m l (d + 1) else 2 ≤ d ∧ okd m l (d - 1)
def fd : lC → Nat → Nat
  | [], d => d
  | x :: l, d => if x.1 ≤ 1 then fd l (d + 1) else fd l (d - 1)
theorem fd_app : ∀ (x y : lC) (d : Nat), fd (x ++ y) d = fd y (fd x d)
  | [], _, _ => rfl
  | x :: t, y, d => by
    simp only [List.cons_append, fd]
    split
    · exact fd_app t y (d + 1)
    · exact fd_app t y (d - 1)
theorem okd_app {m : Nat} : ∀ (x y : lC) (d : Nat), okd m (x ++ y) d ↔ okd m x d ∧ okd m y (fd x d)
  | [], _, _ => by simp [okd, fd]
  | x :: t, y, d => by
    simp only [List.cons_append, fd, okd]
    split
    · rw [okd_app t y (d + 1), and_assoc]
    · rw [okd_app t y (d - 1), and_assoc]
/-- a list of pieces that makes one value -/
def One (l : lC) (h : Nat) : Prop := (∀ x ∈ l, wlp x) ∧ ∀ d m, d + h ≤ m → okd m l d ∧ fd l d = d + 1
/-- a list of pieces that goes on with one -/
def Rst (l : lC) (h : Nat) : Prop := (∀ x ∈ l, wlp x) ∧ ∀ d m, 1 ≤ d → d + h ≤ m → okd m l d ∧ fd l d = d
theorem One_Rst {x y : lC} {h : Nat} (h1 : One x h) (h2 : Rst y h) : One (x ++ y) (h + 1) := by
  refine ⟨fun z hz => (List.mem_append.mp hz).elim (h1.1 z) (h2.1 z), fun d m hm => ?_⟩
  have k1 := h1.2 d m (by omega)
  have k2 := h2.2 (d + 1) m (by omega) (by omega)
  rw [okd_app, fd_app, k1.2]
  exact ⟨⟨k1.1, k2.1⟩, k2.2⟩
theorem Rst_go {x y : lC} {h o : Nat} (ho : 2 ≤ o ∧ o ≤ 7) (h1 : One x h) (h2 : Rst y h) : Rst (x ++ [(o, 0)] ++ y) h := by
  refine ⟨fun z hz => ?_, fun d m hd hm => ?_⟩
  · rcases List.mem_append.mp hz with hz | hz
    · rcases List.mem_append.mp hz with hz | hz
      · exact h1.1 z hz
      · rw [List.mem_singleton.mp hz]; exact Or.inr (Or.inr ⟨ho.1, ho.2, rfl⟩)
    · exact h2.1 z hz
  · have k1 := h1.2 d m (by omega)
    have k2 := h2.2 d m hd hm
    simp only [okd_app, fd_app, k1.2, okd, fd]
    simp only [if_neg (show ¬ o ≤ 1 by omega), Nat.add_sub_cancel]
    exact ⟨⟨⟨k1.1, by omega, trivial⟩, k2.1⟩, k2.2⟩
theorem Rst_nil (h : Nat) : Rst [] h := ⟨fun z hz => (by cases hz), fun d m _ _ => ⟨trivial, rfl⟩⟩
theorem One_mono {x : lC} {h h' : Nat} (h1 : One x h) (hh : h ≤ h') : One x h' := ⟨h1.1, fun d m hm => h1.2 d m (by omega)⟩
theorem One_1 {x : Nat × Nat} {h : Nat} (hx : wlp x) (h1 : x.1 ≤ 1) (hh : 1 ≤ h) : One [x] h := by
  refine ⟨fun z hz => by rw [List.mem_singleton.mp hz]; exact hx, fun d m hm => ?_⟩
  simp only [okd, fd]
  rw [if_pos h1, if_pos h1]
  exact ⟨⟨by omega, trivial⟩, rfl⟩
theorem One_2 {x y : lC} {h o : Nat} (ho : 2 ≤ o ∧ o ≤ 7) (h1 : One x h) (h2 : One y h) : One (x ++ y ++ [(o, 0)]) (h + 1) := by
  refine ⟨fun z hz => ?_, fun d m hm => ?_⟩
  · rcases List.mem_append.mp hz with hz | hz
    · rcases List.mem_append.mp hz with hz | hz
      · exact h1.1 z hz
      · exact h2.1 z hz
    · rw [List.mem_singleton.mp hz]; exact Or.inr (Or.inr ⟨ho.1, ho.2, rfl⟩)
  · have k1 := h1.2 d m (by omega)
    have k2 := h2.2 (d + 1) m (by omega)
    simp only [okd_app, fd_app, k1.2, k2.2, okd, fd]
    simp only [if_neg (show ¬ o ≤ 1 by omega)]
    exact ⟨⟨⟨k1.1, k2.1⟩, by omega, trivial⟩, by omega⟩
theorem pL_one (b : Nat → Int) (e : Nat) : ∀ f m o a l a', o ≤ 6 → pL b e f m o a = .ok (l, a') → (m = 0 → One l (3 + 3 * (6 - o))) ∧ (m = 1 → Rst l (2 + 3 * (6 - o))) ∧ (m = 2 → One l (2 + 3 * (6 - o))) ∧ (m = 3 → Rst l (1 + 3 * (6 - o))) ∧ (4 ≤ m → One l (1 + 3 * (6 - o))) := by
  intro f
  induction f with
  | zero => intro m o a l a' ho h; rw [pL] at h; cases h
  | succ f ih =>
    intro m o a l a' ho h
    match m with
    | 0 =>
      rw [pL_0] at h
      obtain ⟨l1, a1, g1, h⟩ := pB_inv h
      obtain ⟨l2, g2, rfl⟩ := pA_inv h
      have k1 := (ih 2 o a l1 a1 ho g1).2.2.1 rfl
      have k2 := (ih 1 o a1 l2 a' ho g2).2.1 rfl
      refine ⟨fun _ => One_mono (One_Rst k1 k2) (by omega), ?_, ?_, ?_, ?_⟩ <;> intro h <;> omega
    | 1 =>
      rw [pL_1] at h
      refine ⟨by omega, fun _ => ?_, by omega, by omega, by omega⟩
      split at h
      · obtain ⟨l1, a1, g1, h⟩ := pB_inv h
        obtain ⟨l2, g2, rfl⟩ := pA_inv h
        exact Rst_go (by omega) ((ih 2 o _ l1 a1 ho g1).2.2.1 rfl) ((ih 1 o a1 l2 a' ho g2).2.1 rfl)
      · split at h
        · obtain ⟨l1, a1, g1, h⟩ := pB_inv h
          obtain ⟨l2, g2, rfl⟩ := pA_inv h
          exact Rst_go (by omega) ((ih 2 o _ l1 a1 ho g1).2.2.1 rfl) ((ih 1 o a1 l2 a' ho g2).2.1 rfl)
        · cases h
          exact Rst_nil _
    | 2 =>
      rw [pL_2] at h
      obtain ⟨l1, a1, g1, h⟩ := pB_inv h
      obtain ⟨l2, g2, rfl⟩ := pA_inv h
      have k1 := (ih 4 o a l1 a1 ho g1).2.2.2.2 (by omega)
      have k2 := (ih 3 o a1 l2 a' ho g2).2.2.2.1 rfl
      refine ⟨by omega, by omega, fun _ => One_mono (One_Rst k1 k2) (by omega), by omega, by omega⟩
    | 3 =>
      rw [pL_3] at h
      refine ⟨by omega, by omega, by omega, fun _ => ?_, by omega⟩
      split at h
      · obtain ⟨l1, a1, g1, h⟩ := pB_inv h
        obtain ⟨l2, g2, rfl⟩ := pA_inv h
        exact Rst_go (by omega) ((ih 4 o _ l1 a1 ho g1).2.2.2.2 (by omega)) ((ih 3 o a1 l2 a' ho g2).2.2.2.1 rfl)
      · split at h
        · obtain ⟨l1, a1, g1, h⟩ := pB_inv h
          obtain ⟨l2, g2, rfl⟩ := pA_inv h
          exact Rst_go (by omega) ((ih 4 o _ l1 a1 ho g1).2.2.2.2 (by omega)) ((ih 3 o a1 l2 a' ho g2).2.2.2.1 rfl)
        · cases h
          exact Rst_nil _
    | m + 4 =>
      refine ⟨by omega, by omega, by omega, by omega, fun _ => ?_⟩
      rw [pL] at h
      split at h
      · obtain ⟨x, a1, x1, x2, h⟩ := pN_inv h
        cases h
        exact One_1 (Or.inl ⟨rfl, by simp only; omega⟩) (by simp) (by omega)
      · split at h
        · split at h
          · cases h
          · obtain ⟨l1, a1, g1, h⟩ := pB_inv h
            obtain ⟨g2, h⟩ := pS_inv h
            cases h
            exact One_mono ((ih 0 (o + 1) _ l a1 (by omega) g1).1 rfl) (by omega)
        · split at h
          · cases h
          · rename_i w hw
            have hw10 := wix_lt hw
            split at h
            · rename_i h8
              cases h
              exact One_1 (Or.inr (Or.inl ⟨rfl, by simp only; omega⟩)) (by simp) (by omega)
            · split at h
              · cases h
              · obtain ⟨g0, h⟩ := pS_inv h
                obtain ⟨l1, a1, g1, h⟩ := pB_inv h
                obtain ⟨g2, h⟩ := pS_inv h
                obtain ⟨l2, a2, g3, h⟩ := pB_inv h
                obtain ⟨g4, h⟩ := pS_inv h
                cases h
                replace hw10 : w < 0 + 10 := hw10
                exact One_mono (One_2 (by omega) ((ih 0 (o + 1) _ l1 a1 (by omega) g1).1 rfl) ((ih 0 (o + 1) _ l2 a2 (by omega) g3).1 rfl)) (by omega)
end LWF
