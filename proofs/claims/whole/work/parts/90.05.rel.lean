/-! How the small machine's cells, locals and stacks stand in the JVM's -/
section REL
/-- where things are: the first cell's address; the texts' addresses (the script's under 1000); the classes' numbers and slots; the rows' classes -/
abbrev AG : Type := Nat × (Nat → Nat) × va_G × (Nat → ClassId)
abbrev g_A (G : AG) : Nat → Prop := fun q => G.1 ≤ q
def g_v (G : AG) (v : Value) : Value := match v with
  | .ref k => .ref (G.1 + k)
  | .float q => .ref (G.2.1 q.toNat)
  | v => v
def g_a (G : AG) (a : vp_A) : vp_A := match a with
  | (n, .inr (.inr (.inr (.inr f)))) => (n, .inr (.inr (.inr (.inr (fun j => (f j).map (fun k => G.1 + k))))))
  | a => a
def g_c (G : AG) (c : AC) : va_E := match c with
  | .inl (t, a) => .inl (G.2.2.2 t, g_a G a)
  | .inr (ci, fs) => .inr (ci, fs.map (g_v G))
def g_ws (G : AG) : Nat → AH → va_W
  | _, [] => []
  | k, c :: t => (G.1 + k, g_c G c) :: g_ws G (k + 1) t
theorem g_ws_get (G : AG) : ∀ (h : AH) (k j : Nat), (g_ws G k h)[j]? = (h[j]?).map (fun c => (G.1 + (k + j), g_c G c))
  | [], k, j => by simp [g_ws]
  | c :: t, k, 0 => by simp [g_ws]
  | c :: t, k, j + 1 => by
    simp only [g_ws, List.getElem?_cons_succ]
    rw [g_ws_get G t (k + 1) j]
    cases t[j]? with
    | none => rfl
    | some x => simp [Nat.add_assoc, Nat.add_comm 1 j]
theorem g_ws_set (G : AG) (c : AC) : ∀ (h : AH) (k j : Nat), g_ws G k (h.set j c) = (g_ws G k h).set j (G.1 + (k + j), g_c G c)
  | [], k, j => by simp [g_ws]
  | x :: t, k, 0 => by simp [g_ws]
  | x :: t, k, j + 1 => by
    simp only [g_ws, List.set_cons_succ]
    rw [g_ws_set G c t (k + 1) j]
    simp [Nat.add_assoc, Nat.add_comm 1 j]
theorem g_ws_app (G : AG) (c : AC) : ∀ (h : AH) (k : Nat), g_ws G k (h ++ [c]) = g_ws G k h ++ [(G.1 + (k + h.length), g_c G c)]
  | [], k => by simp [g_ws]
  | x :: t, k => by
    simp only [g_ws, List.cons_append, List.length_cons]
    rw [g_ws_app G c t (k + 1)]
    simp [Nat.add_assoc, Nat.add_comm 1 t.length]
/-- a cell of ours is at its place -/
theorem g_at (G : AG) {h : AH} {j : Nat} {c : AC} (hj : h[j]? = some c) : (g_ws G 0 h)[j]? = some (G.1 + j, g_c G c) := by
  rw [g_ws_get, hj]
  simp
theorem g_ws_inv (G : AG) {h : AH} {j : Nat} {q : Nat × va_E} (hj : (g_ws G 0 h)[j]? = some q) : ∃ c, h[j]? = some c ∧ q = (G.1 + j, g_c G c) := by
  rw [g_ws_get] at hj
  cases hc : h[j]? with
  | none => rw [hc] at hj; simp at hj
  | some c => rw [hc] at hj; simp at hj; exact ⟨c, rfl, hj.symm⟩
theorem g_D (G : AG) (h : AH) : va_D (g_A G) (g_ws G 0 h) := by
  refine ⟨fun i j p q hi hj hpq => ?_, fun k q hk => ?_⟩
  · obtain ⟨c, -, rfl⟩ := g_ws_inv G hi
    obtain ⟨c', -, rfl⟩ := g_ws_inv G hj
    dsimp only at hpq
    omega
  · obtain ⟨c, -, rfl⟩ := g_ws_inv G hk
    exact Nat.le_add_right _ _
abbrev g_P (G : AG) (h : AH) (H : Heap) : Prop := va_P G.2.2.1 a_cl (g_ws G 0 h) H
abbrev g_tys (G : AG) : List (ClassId × FieldType) := [(G.2.2.2 0, .int), (G.2.2.2 1, .long), (G.2.2.2 2, .object RX9)]
theorem g_low {G : AG} {h : AH} {H : Heap} (hP : g_P G h H) (h0 : G.1 ≤ H.size) : G.1 + h.length ≤ H.size := by
  rcases Nat.eq_zero_or_pos h.length with hz | hz
  · omega
  · have hl : h.length - 1 < h.length := by omega
    have := (hP (h.length - 1) _ (g_at G (List.getElem?_eq_getElem hl))).lt
    dsimp only at this
    omega
/-- locals -/
def g_L (G : AG) (ls : Array Slot) (L : List Value) : Prop := ls.size = L.length ∧ lv_wf ls ∧ ∀ (j : Nat) (v : Value), L[j]? = some v → v ≠ a_un → ls[j]? = some (.val (g_v G v))
def g_lvf (G : AG) (L : List Value) (j : Nat) : Option (Nat × Value) := match L[j]? with
  | some v => if v = a_un then none else some (j, g_v G v)
  | none => none
def g_lv (G : AG) (L : List Value) : List (Nat × Value) := (List.range L.length).filterMap (g_lvf G L)
theorem g_lv_mem {G : AG} {L : List Value} {j : Nat} {w : Value} : (j, w) ∈ g_lv G L ↔ ∃ v, L[j]? = some v ∧ v ≠ a_un ∧ w = g_v G v := by
  unfold g_lv
  rw [List.mem_filterMap]
  constructor
  · rintro ⟨i, hi, h⟩
    unfold g_lvf at h
    split at h
    · rename_i v hv
      split at h
      · cases h
      · rename_i hne
        cases h
        exact ⟨v, hv, hne, rfl⟩
    · cases h
  · rintro ⟨v, hv, hne, rfl⟩
    refine ⟨j, List.mem_range.mpr (List.getElem?_eq_some_iff.mp hv).1, ?_⟩
    unfold g_lvf
    rw [hv]
    simp [hne]
theorem g_L.has {G : AG} {ls : Array Slot} {L : List Value} (h : g_L G ls L) : lv_has ls L.length (g_lv G L) :=
  ⟨h.1, h.2.1, fun q hq => by
    obtain ⟨v, hv, hne, hw⟩ := g_lv_mem.mp (show (q.1, q.2) ∈ g_lv G L from hq)
    rw [h.2.2 _ _ hv hne, hw]⟩
theorem g_cat (G : AG) (v : Value) : (g_v G v).category = v.category := by cases v <;> rfl
theorem g_pl {L : List Value} {j : Nat} {v : Value} (h : a_pl L (j + 1) = false) (hv : L[j]? = some v) : ¬ v.category = 2 := by
  simp [a_pl, hv] at h
  exact h
theorem g_st1 {G : AG} {ls' : Array Slot} {L : List Value} {j : Nat} {v : Value} (h : lv_has ls' L.length ((j, g_v G v) :: (g_lv G L).filter (fun q => !(q.1 == j) && !(q.1 + 1 == j && q.2.category == 2)))) (hpl : a_pl L j = false) : g_L G ls' (L.set j v) := by
  refine ⟨by rw [List.length_set]; exact h.1, h.2.1, fun i w hi hne => ?_⟩
  rw [List.getElem?_set] at hi
  split at hi
  · rename_i hji
    subst hji
    split at hi
    · cases hi
      exact h.2.2 (j, g_v G v) (List.mem_cons_self ..)
    · cases hi
  · rename_i hji
    refine h.2.2 (i, g_v G w) (List.mem_cons_of_mem _ (List.mem_filter.mpr ⟨g_lv_mem.mpr ⟨w, hi, hne, rfl⟩, ?_⟩))
    simp only [Bool.and_eq_true, Bool.not_eq_true', Bool.and_eq_false_iff, beq_eq_false_iff_ne, ne_eq]
    refine ⟨fun e => hji e.symm, ?_⟩
    by_cases hx : i + 1 = j
    · subst hx
      exact Or.inr (by rw [g_cat]; exact g_pl hpl hi)
    · exact Or.inl hx
theorem g_st2 {G : AG} {ls' : Array Slot} {L : List Value} {j : Nat} {v : Value} (h : lv_has ls' L.length ((j, g_v G v) :: (g_lv G L).filter (fun q => !(q.1 == j) && (!(q.1 == j + 1) && !(q.1 + 1 == j && q.2.category == 2))))) (hpl : a_pl L j = false) : g_L G ls' ((L.set j v).set (j + 1) a_un) := by
  refine ⟨by rw [List.length_set, List.length_set]; exact h.1, h.2.1, fun i w hi hne => ?_⟩
  rw [List.getElem?_set] at hi
  split at hi
  · split at hi
    · cases hi
      exact absurd rfl hne
    · cases hi
  · rename_i hj1
    rw [List.getElem?_set] at hi
    split at hi
    · rename_i hji
      subst hji
      split at hi
      · cases hi
        exact h.2.2 (j, g_v G v) (List.mem_cons_self ..)
      · cases hi
    · rename_i hji
      refine h.2.2 (i, g_v G w) (List.mem_cons_of_mem _ (List.mem_filter.mpr ⟨g_lv_mem.mpr ⟨w, hi, hne, rfl⟩, ?_⟩))
      simp only [Bool.and_eq_true, Bool.not_eq_true', Bool.and_eq_false_iff, beq_eq_false_iff_ne, ne_eq]
      refine ⟨fun e => hji e.symm, fun e => hj1 e.symm, ?_⟩
      by_cases hx : i + 1 = j
      · subst hx
        exact Or.inr (by rw [g_cat]; exact g_pl hpl hi)
      · exact Or.inl hx
theorem g_lay_len (G : AG) : ∀ (vs : List Value), (lg_sl (vs.map (g_v G))).length = (a_lay vs).length
  | [] => rfl
  | v :: t => by
    have ih := g_lay_len G t
    simp only [lg_sl, List.map_cons, List.flatMap_cons, List.length_append] at ih ⊢
    rw [ih]
    simp only [a_lay, g_cat]
    split <;> simp <;> omega
theorem g_lay_args (G : AG) : ∀ (vs : List Value) (k j : Nat) (v : Value), (a_lay vs)[j]? = some v → v ≠ a_un → (k + j, g_v G v) ∈ lv_args k (vs.map (g_v G))
  | [], k, j, v, h, _ => by simp [a_lay] at h
  | x :: t, k, j, v, h, hne => by
    simp only [List.map_cons, lv_args]
    simp only [a_lay] at h
    split at h
    · rename_i hc
      match j, h with
      | 0, h => cases h; exact List.mem_cons_self ..
      | 1, h => simp at h; exact absurd h.symm hne
      | j + 2, h =>
        have := g_lay_args G t (k + 2) j v (by simpa using h) hne
        refine List.mem_cons_of_mem _ ?_
        rw [g_cat, hc]
        rw [show k + (j + 2) = k + 2 + j by omega]
        exact this
    · rename_i hc
      have hc1 : x.category = 1 := (lv_cat x).resolve_right hc
      match j, h with
      | 0, h => cases h; exact List.mem_cons_self ..
      | j + 1, h =>
        have := g_lay_args G t (k + 1) j v (by simpa using h) hne
        refine List.mem_cons_of_mem _ ?_
        rw [g_cat, hc1]
        rw [show k + (j + 1) = k + 1 + j by omega]
        exact this
/-- at a method's entry -/
theorem g_entry (G : AG) (vs : List Value) {n : Nat} (h : (a_lay vs).length ≤ n) : g_L G ((lg_sl (vs.map (g_v G)) ++ List.replicate (n - (lg_sl (vs.map (g_v G))).length) Slot.unset).toArray) (a_enter n vs) := by
  have hl := lv_entry (vs.map (g_v G)) (n := n) (by rw [g_lay_len]; exact h)
  have hlen : (a_enter n vs).length = n := by
    unfold a_enter
    rw [List.length_append, List.length_replicate]
    omega
  refine ⟨by rw [hlen]; exact hl.1, hl.2.1, fun j v hj hne => ?_⟩
  have hm : (a_lay vs)[j]? = some v := by
    unfold a_enter at hj
    by_cases hlt : j < (a_lay vs).length
    · rwa [List.getElem?_append_left hlt] at hj
    · rw [List.getElem?_append_right (by omega), List.getElem?_replicate] at hj
      split at hj
      · cases hj; exact absurd rfl hne
      · cases hj
  have := g_lay_args G vs 0 j v hm hne
  rw [Nat.zero_add] at this
  exact hl.2.2 _ this
end REL
