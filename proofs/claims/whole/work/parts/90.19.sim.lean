/-! Calls; then the whole run by induction -/
section SIM
section
variable {p : Program} {l : Launch} {e : Env} {R : Room} {s : State} {m : MethodId} {args : Array Value} {below : List Frame} {meth : Method} {c : Code} {H : Heap} {locs : List Loc} {cells slots : Nat} {Q : State → Prop} {G : AG} {sc : Nat × (Nat → Int32)} {q : AM} {cd : List AI} {o pc len : Nat} {i : Instr} {ps : List Nat} {L st : List Value} {h : AH} {h' : AH} {ls : Array Slot} {h0 z0 : Nat}
theorem g_acall {mi n mj : Nat} {st vs rest : List Value} (e : a_call mi n st = some (.inr (.inr (mj, vs, rest)))) : mj = mi ∧ n = vs.length ∧ st = vs.reverse ++ rest ∧ a_cat rest ≤ 8 := by
  unfold a_call at e
  split at e
  · rename_i hc
    simp only [Option.some.injEq, Sum.inr.injEq, Prod.mk.injEq] at e
    obtain ⟨rfl, rfl, rfl⟩ := e
    refine ⟨rfl, ?_, ?_, hc.2⟩
    · rw [List.length_reverse, List.length_take]
      omega
    · rw [List.reverse_reverse, List.take_append_drop]
  · cases e
theorem g_rev (G : AG) (vs rest : List Value) : (vs.reverse ++ rest).map (g_v G) = (vs.map (g_v G)).reverse ++ rest.map (g_v G) := by rw [List.map_append, List.map_reverse]
theorem o_m_in {mj n : Nat} {qj : AM} (e : o_m mj n = some qj) : ∃ w, a_ms[mj]? = some qj ∧ a_wps[mj]? = some w ∧ w.2.2 = n ∧ mj < 324 := by
  unfold o_m at e
  split at e
  · rename_i q w h1 h2
    split at e
    · rename_i hc
      cases e
      exact ⟨w, h1, h2, hc.1, hc.2⟩
    · cases e
  · cases e
/-- what a call's row says -/
def g_tgt (own : String) (z : Nat) (i : Instr) (h : AH) (vs : List Value) (qj : AM) (n : Nat) : Prop :=
  (i = .invokevirtual z ∧ qj.2.2.2.2.2 = [] ∧ ∃ (rc : Nat) (vs' : List Value) (ci : Nat) (fs : List Value) (C : vw_C), vs = .ref rc :: vs' ∧ vs'.length = n ∧ h[rc]? = some (.inr (ci, fs)) ∧ a_cl[ci]? = some C ∧ qj.1.cls = C.1 ∧ Cond.methodLink own z qj.1 ∈ a_Ts ∧ Cond.instanceMethod qj.1 ∈ a_Ts ∧ Cond.selects C.1 qj.1 qj.1 ∈ a_Ts) ∨
  (i = .invokestatic z ∧ vs.length = n ∧ Cond.methodLink own z qj.1 ∈ a_Ts ∧ Cond.static qj.1 ∈ a_Ts) ∨
  (i = .invokespecial z ∧ qj.2.2.2.2.2 = [] ∧ qj.1.name = "<init>" ∧ qj.2.2.2.1 = none ∧ (∃ (rc : Nat) (vs' : List Value), vs = .ref rc :: vs' ∧ vs'.length = n) ∧ (Cond.methodLink own z qj.1 ∈ a_Ts ∨ Cond.methodLinkNest own z qj.1 "TownTrain" ∈ lw_tbl) ∧ Cond.instanceMethod qj.1 ∈ a_Ts)
theorem g_idx {st vs rest : List Value} {n k : Nat} {v : Value} (h1 : st[n]? = some v) (h2 : n + 1 = vs.length) (h3 : st = vs.reverse ++ rest) : ∃ vs', vs = v :: vs' ∧ vs'.length = n := by
  subst h3
  rw [List.getElem?_append_left (by rw [List.length_reverse]; omega), List.getElem?_reverse (by omega)] at h1
  cases vs with
  | nil => simp at h2
  | cons a t =>
    simp at h2
    subst h2
    simp at h1
    subst h1
    exact ⟨t, rfl, rfl⟩
theorem s_tgt (hok : o_ok q.2.2.2.2.1 q.2.1 q.2.2.2.1 (decide (q.1.name = "<init>")) cd o (pc, i, len, ps) = true) {mj : Nat} {vs rest : List Value} (hst : a_step sc o i ps L st h = some (.inr (.inr (mj, vs, rest)))) : ∃ (z : Nat) (qj : AM) (w : Nat × Nat × Nat), a_ms[mj]? = some qj ∧ a_wps[mj]? = some w ∧ mj < 324 ∧ st = vs.reverse ++ rest ∧ a_cat rest ≤ 8 ∧ len = 3 ∧ p_pc cd (o + 1) = pc + 3 ∧ decode q.2.1 pc = .ok (i, 3) ∧ g_tgt q.2.2.2.2.1 z i h vs qj w.2.2 := by
  simp only [o_ok, Bool.and_eq_true, decide_eq_true_eq] at hok
  cases i
  case invokevirtual z =>
    simp only [Bool.and_eq_true] at hok
    obtain ⟨hd, hok1, hok2⟩ := hok
    obtain ⟨rfl, hn⟩ := p_n hok1
    simp only [a_step] at hst
    split at hst
    · rename_i mi n ci tl
      simp only [a_callV] at hst
      split at hst
      · rename_i r hr
        split at hst
        · rename_i his
          obtain ⟨rfl, e1, e2, e3⟩ := g_acall hst
          obtain ⟨fs, hfs⟩ := g_is his
          obtain ⟨vs', hv, hl⟩ := g_idx (k := 0) hr e1 e2
          simp only [o_iv] at hok2
          split at hok2
          · rename_i heq
            cases heq
            split at hok2
            · rename_i qj C hqj hC
              simp only [Bool.and_eq_true, decide_eq_true_eq] at hok2
              obtain ⟨⟨⟨⟨f1, f2⟩, f3⟩, f4⟩, f5⟩ := hok2
              obtain ⟨w, g1, g2, g3, g4⟩ := o_m_in hqj
              exact ⟨z, qj, w, g1, g2, g4, e2, e3, rfl, hn, hd, Or.inl ⟨rfl, f1, r, vs', ci, fs, C, hv, by rw [g3]; exact hl, hfs, hC, f2, o_w_in f3, o_w_in f4, o_w_in f5⟩⟩
            · cases hok2
          · rename_i heq; cases heq
          · rename_i heq; cases heq
          · cases hok2
        · cases hst
      · cases hst
    · simp only [a_slen, a_go] at hst
      repeat' (split at hst)
      all_goals cases hst
    · simp only [a_sat, a_go] at hst
      repeat' (split at hst)
      all_goals cases hst
    · cases hst
  case invokestatic z =>
    simp only [Bool.and_eq_true] at hok
    obtain ⟨hd, hok1, hok2⟩ := hok
    obtain ⟨rfl, hn⟩ := p_n hok1
    simp only [a_step] at hst
    split at hst
    · rename_i mi n tl
      obtain ⟨rfl, e1, e2, e3⟩ := g_acall hst
      simp only [o_is] at hok2
      split at hok2
      · rename_i heq
        cases heq
        split at hok2
        · rename_i qj hqj
          simp only [Bool.and_eq_true, decide_eq_true_eq] at hok2
          obtain ⟨⟨f1, f2⟩, f3⟩ := hok2
          obtain ⟨w, g1, g2, g3, g4⟩ := o_m_in hqj
          exact ⟨z, qj, w, g1, g2, g4, e2, e3, rfl, hn, hd, Or.inr (Or.inl ⟨rfl, by rw [g3]; exact e1.symm, o_w_in f2, o_w_in f3⟩)⟩
        · cases hok2
      all_goals first | (rename_i heq; cases heq; done) | cases hok2
    · simp only [a_cpi, a_go] at hst
      repeat' (split at hst)
      all_goals cases hst
    · simp only [a_cpl, a_go] at hst
      repeat' (split at hst)
      all_goals cases hst
    · rename_i mi n tl
      obtain ⟨rfl, e1, e2, e3⟩ := g_acall hst
      simp only [o_is] at hok2
      split at hok2
      · rename_i heq
        cases heq
      · rename_i heq
        cases heq
        split at hok2
        · rename_i qj hqj
          simp only [Bool.and_eq_true, decide_eq_true_eq] at hok2
          obtain ⟨⟨f1, f2⟩, f3⟩ := hok2
          obtain ⟨w, g1, g2, g3, g4⟩ := o_m_in hqj
          exact ⟨z, qj, w, g1, g2, g4, e2, e3, rfl, hn, hd, Or.inr (Or.inl ⟨rfl, by rw [g3]; exact e1.symm, o_w_in f2, o_w_in f3⟩)⟩
        · cases hok2
      all_goals first | (rename_i heq; cases heq; done) | cases hok2
    · simp only [a_m2, a_go] at hst
      repeat' (split at hst)
      all_goals cases hst
    · simp only [a_m2, a_go] at hst
      repeat' (split at hst)
      all_goals cases hst
    · simp only [a_go] at hst
      repeat' (split at hst)
      all_goals cases hst
    · simp only [a_go] at hst
      repeat' (split at hst)
      all_goals cases hst
    · cases hst
  case invokespecial z =>
    obtain ⟨hd, hok⟩ := hok
    simp only [a_step] at hst
    split at hst
    · rename_i mi n tl
      simp only [a_callI] at hst
      split at hst
      · rename_i r hr
        obtain ⟨rfl, e1, e2, e3⟩ := g_acall hst
        obtain ⟨vs', hv, hl⟩ := g_idx (k := 0) hr e1 e2
        simp only [Bool.and_eq_true] at hok
        obtain ⟨hok1, hok2⟩ := hok
        obtain ⟨rfl, hn⟩ := p_n hok1
        simp only [o_ii] at hok2
        split at hok2
        · rename_i heq
          cases heq
          split at hok2
          · rename_i qj hqj
            simp only [Bool.and_eq_true, decide_eq_true_eq] at hok2
            obtain ⟨⟨⟨⟨f1, f2⟩, f3⟩, f4⟩, f5⟩ := hok2
            obtain ⟨w, g1, g2, g3, g4⟩ := o_m_in hqj
            exact ⟨z, qj, w, g1, g2, g4, e2, e3, rfl, hn, hd, Or.inr (Or.inr ⟨rfl, f1, f2, f3, ⟨r, vs', hv, by rw [g3]; exact hl⟩, Or.inl (o_w_in f4), o_w_in f5⟩)⟩
          · cases hok2
        all_goals first | (rename_i heq; cases heq; done) | cases hok2
      · cases hst
    · rename_i mi n tl
      simp only [a_callI] at hst
      split at hst
      · rename_i r hr
        obtain ⟨rfl, e1, e2, e3⟩ := g_acall hst
        obtain ⟨vs', hv, hl⟩ := g_idx (k := 0) hr e1 e2
        simp only [Bool.and_eq_true] at hok
        obtain ⟨hok1, hok2⟩ := hok
        obtain ⟨rfl, hn⟩ := p_n hok1
        simp only [o_ii] at hok2
        split at hok2
        · rename_i heq
          cases heq
        · rename_i heq
          cases heq
          split at hok2
          · rename_i qj hqj
            simp only [Bool.and_eq_true, decide_eq_true_eq] at hok2
            obtain ⟨⟨⟨⟨f1, f2⟩, f3⟩, f4⟩, f5⟩ := hok2
            obtain ⟨w, g1, g2, g3, g4⟩ := o_m_in hqj
            exact ⟨z, qj, w, g1, g2, g4, e2, e3, rfl, hn, hd, Or.inr (Or.inr ⟨rfl, f1, f2, f3, ⟨r, vs', hv, by rw [g3]; exact hl⟩, Or.inr (o_b_in f4), o_w_in f5⟩)⟩
          · cases hok2
        all_goals first | (rename_i heq; cases heq; done) | cases hok2
      · cases hst
    · split at hst
      · split at hst
        · simp [a_go] at hst
        · cases hst
      · cases hst
    · cases hst
  all_goals
    exfalso
    revert hst
    simp only [a_step]
    (try unfold a_stI) ; (try unfold a_stA) ; (try unfold a_stL) ; (try unfold a_i2) ; (try unfold a_i2d) ; (try unfold a_l2) ; (try unfold a_l2d) ; (try unfold a_lsh) ; (try unfold a_iald) ; (try unfold a_lald) ; (try unfold a_aald) ; (try unfold a_iast) ; (try unfold a_last) ; (try unfold a_aast) ; (try unfold a_alen)
    repeat' (first | (intro hq; cases hq; done) | (simp [a_go, a_to, a_ld, a_sto]; done) | split | unfold a_br | unfold a_ld | unfold a_sto | unfold a_getf | unfold a_putf | unfold a_newa)
end
end SIM
