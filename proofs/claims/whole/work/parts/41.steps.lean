/-! What the pieces ask, the code does: one law for each piece -/
section STEPS
def ji (cd : List AI) (o : Nat) : Option (Instr × List Nat) := (cd[o]?).map (fun i => (i.2.1, i.2.2.2))
theorem ji_at {mi o : Nat} {x : Instr} {ps : List Nat} (h : ji (a_code mi) o = some (x, ps)) : ∃ pc len, (a_code mi)[o]? = some (pc, x, len, ps) := by
  unfold ji at h
  cases hc : (a_code mi)[o]? with
  | none => rw [hc] at h; cases h
  | some i =>
    rw [hc] at h
    obtain ⟨pc, y, len, qs⟩ := i
    cases h
    exact ⟨pc, len, rfl⟩
/-- so a call ends, at most d deep -/
def Cd (sc : jSc) (d : Nat) : jCR := fun m vs σ r τ => (a_lay (vs.map jc)).length ≤ a_maxL m ∧ ∃ n, a_run sc n d m (a_code m) 0 (a_enter (a_maxL m) (vs.map jc)) [] (j_h σ) = some (jcR r, j_h τ)
/-- from here the method ends as Q says -/
def Zt (sc : jSc) (d mi o : Nat) (L st : List jV) (σ : jH) (Q : jR → jH → Prop) : Prop := ∃ n r τ, a_run sc n d mi (a_code mi) o (L.map jc) (st.map jc) (j_h σ) = some (jcR r, j_h τ) ∧ Q r τ
theorem a_run_more (sc : jSc) : ∀ (n d mi : Nat) (cd : List AI) (o : Nat) (L st : List Value) (h : AH) (r : ARes), a_run sc n d mi cd o L st h = some r → a_run sc (n + 1) d mi cd o L st h = some r := by
  intro n
  induction n with
  | zero =>
    intro d mi cd o L st h r hh
    rw [a_run] at hh
    cases hh
  | succ n ih =>
    intro d mi cd o L st h r hh
    rw [a_run] at hh ⊢
    cases hc : cd[o]? with
    | none => rw [hc] at hh; cases hh
    | some i =>
      rw [hc] at hh
      simp only at hh ⊢
      cases hs : a_step sc o i.2.1 i.2.2.2 L st h with
      | none => rw [hs] at hh; cases hh
      | some w =>
        rw [hs] at hh
        match w, hh with
        | .inl (o', L', st', h'), hh => exact ih _ _ _ _ _ _ _ _ hh
        | .inr (.inl r'), hh => exact hh
        | .inr (.inr (mj, args, rest)), hh =>
          simp only at hh ⊢
          match d, hh with
          | 0, hh => cases hh
          | d' + 1, hh =>
            simp only at hh ⊢
            split at hh
            · rename_i hlen
              rw [if_pos hlen]
              cases hq : a_run sc n d' mj (a_code mj) 0 (a_enter (a_maxL mj) args) [] h with
              | none => rw [hq] at hh; cases hh
              | some q =>
                rw [ih _ _ _ _ _ _ _ _ hq]
                rw [hq] at hh
                match q, hh with
                | (.inl v, h'), hh => exact ih _ _ _ _ _ _ _ _ hh
                | (.inr x, h'), hh =>
                  simp only at hh ⊢
                  split at hh
                  · split at hh
                    · exact hh
                    · split at hh
                      · rename_i hj
                        rw [if_pos hj]
                        exact ih _ _ _ _ _ _ _ _ hh
                      · cases hh
                  · cases hh
            · cases hh
theorem a_run_le {sc : jSc} {n m d mi : Nat} {cd : List AI} {o : Nat} {L st : List Value} {h : AH} {r : ARes} (hnm : n ≤ m) (hh : a_run sc n d mi cd o L st h = some r) : a_run sc m d mi cd o L st h = some r := by
  induction hnm with
  | refl => exact hh
  | step _ ih => exact a_run_more _ _ _ _ _ _ _ _ _ _ ih
section
variable {sc : jSc} {d k mi o o' : Nat} {L L' st st' : List jV} {σ σ' τ : jH} {Q : jR → jH → Prop} {x : Instr} {ps : List Nat}
theorem Zt_at (h : ji (a_code mi) o = some (x, ps)) (hs : a_step sc o x ps (L.map jc) (st.map jc) (j_h σ) = some (.inl (o', L'.map jc, st'.map jc, j_h σ'))) (hk : Zt sc d mi o' L' st' σ' Q) : Zt sc d mi o L st σ Q := by
  obtain ⟨n, r, τ, hr, q⟩ := hk
  obtain ⟨pc, len, hc⟩ := ji_at h
  refine ⟨n + 1, r, τ, ?_, q⟩
  rw [a_run, hc]
  simp only [hs]
  exact hr
theorem Zt_end {r : jR} (h : ji (a_code mi) o = some (x, ps)) (hs : a_step sc o x ps (L.map jc) (st.map jc) (j_h σ) = some (.inr (.inl (jcR r, j_h τ)))) (hq : Q r τ) : Zt sc d mi o L st σ Q := by
  obtain ⟨pc, len, hc⟩ := ji_at h
  refine ⟨1, r, τ, ?_, hq⟩
  rw [a_run, hc]
  simp only [hs]
theorem Zt_call {m : Nat} {vs : List jV} {v : Option jV} (h : ji (a_code mi) o = some (x, ps)) (hs : a_step sc o x ps (L.map jc) (st'.map jc) (j_h σ) = some (.inr (.inr (m, vs.map jc, st.map jc)))) (hc : Cd sc k m vs σ (.inl v) τ) (hk : Zt sc (k + 1) mi (o + 1) L (v.toList ++ st) τ Q) : Zt sc (k + 1) mi o L st' σ Q := by
  obtain ⟨pc, len, hcd⟩ := ji_at h
  obtain ⟨hl, n1, h1⟩ := hc
  obtain ⟨n2, r, τ2, h2, q⟩ := hk
  refine ⟨max n1 n2 + 1, r, τ2, ?_, q⟩
  rw [a_run, hcd]
  simp only [hs]
  rw [if_pos hl, a_run_le (Nat.le_max_left n1 n2) h1]
  have e : ((v.map jc).toList ++ st.map jc) = (v.toList ++ st).map jc := by cases v <;> rfl
  have e2 : jcR (.inl v) = .inl (v.map jc) := by cases v <;> rfl
  rw [e2]
  simp only
  rw [e]
  exact a_run_le (Nat.le_max_right n1 n2) h2
theorem Zt_throw {m y : Nat} {vs : List jV} {st0 : List Value} {z : Nat} (hx : x = .invokevirtual z) (h : ji (a_code mi) o = some (x, ps)) (hs : a_step sc o x ps (L.map jc) (st'.map jc) (j_h σ) = some (.inr (.inr (m, vs.map jc, st0)))) (hh : a_hand mi = []) (hc : Cd sc k m vs σ (.inr y) τ) (hk : Q (.inr y) τ) : Zt sc (k + 1) mi o L st' σ Q := by
  subst hx
  obtain ⟨pc, len, hcd⟩ := ji_at h
  obtain ⟨hl, n1, h1⟩ := hc
  refine ⟨n1 + 1, _, τ, ?_, hk⟩
  rw [a_run, hcd]
  simp only [hs]
  rw [if_pos hl, h1]
  simp only [jcR, hh, a_find]
def j_fol (cd : List AI) : Nat → Nat → Nat
  | 0, p => p
  | f + 1, p => match ji cd p with
    | some (.goto _, [t]) => j_fol cd f t
    | _ => p
theorem Zt_goto {z t : Nat} {y : Int} (h : ji (a_code mi) z = some (.goto y, [t])) : Zt sc d mi z L st σ Q ↔ Zt sc d mi t L st σ Q := by
  constructor
  · rintro ⟨n, r, τ, hr, q⟩
    obtain ⟨pc, len, hc⟩ := ji_at h
    cases n with
    | zero => rw [a_run] at hr; cases hr
    | succ n =>
      rw [a_run, hc] at hr
      exact ⟨n, r, τ, hr, q⟩
  · exact Zt_at h rfl
theorem Zt_fol : ∀ (f p : Nat), Zt sc d mi (j_fol (a_code mi) f p) L st σ Q ↔ Zt sc d mi p L st σ Q
  | 0, p => Iff.rfl
  | f + 1, p => by
    unfold j_fol
    split
    · rename_i h
      exact (Zt_fol f _).trans (Zt_goto h).symm
    · exact Iff.rfl
/-- two places from which the same is done: gotos apart -/
def jeq (cd : List AI) (p q : Nat) : Prop := j_fol cd 6 p = j_fol cd 6 q
theorem Zt_eq {p q : Nat} (h : jeq (a_code mi) p q) (hz : Zt sc d mi q L st σ Q) : Zt sc d mi p L st σ Q := by
  rw [← Zt_fol 6] at hz ⊢
  unfold jeq at h
  rw [h]
  exact hz
theorem jeq_symm {cd : List AI} {p q : Nat} (h : jeq cd p q) : jeq cd q p := Eq.symm h
end
theorem jget_at : ∀ {L : List jV} {j : Nat} {v : jV}, jget L j = v → v ≠ vU → (L.map jc)[j]? = some (jc v)
  | [], j, v, h, hv => absurd h.symm hv
  | a :: t, 0, v, h, _ => by
    have h' : a = v := h
    simp [h']
  | a :: t, j + 1, v, h, hv => by
    have h' : jget t j = v := h
    simpa using jget_at h' hv
theorem jst_spec : ∀ {L : List jV} {j : Nat} {v : jV} {M : List jV}, jst L j v = some M → j < L.length ∧ M = L.set j v ∧ (∀ i, j = i + 1 → ∃ y, L[i]? = some y ∧ jisL y = false)
  | [], j, v, M, h => by simp [jst] at h
  | a :: t, 0, v, M, h => by
    simp only [jst, Option.some.injEq] at h
    subst h
    exact ⟨by simp, rfl, fun i hi => by omega⟩
  | a :: t, 1, v, M, h => by
    unfold jst at h
    split at h
    · cases h
    · rename_i ha
      obtain ⟨m, hm, rfl⟩ := Option.map_eq_some_iff.mp h
      obtain ⟨h1, h2, h3⟩ := jst_spec hm
      subst h2
      refine ⟨by simpa using h1, rfl, fun i hi => ?_⟩
      have : i = 0 := by omega
      subst this
      exact ⟨a, rfl, by simpa using ha⟩
  | a :: t, j + 2, v, M, h => by
    unfold jst at h
    obtain ⟨m, hm, rfl⟩ := Option.map_eq_some_iff.mp h
    obtain ⟨h1, h2, h3⟩ := jst_spec hm
    subst h2
    refine ⟨by simp only [List.length_cons]; omega, rfl, fun i hi => ?_⟩
    have : i = j + 1 := by omega
    subst this
    obtain ⟨y, hy, hy2⟩ := h3 j rfl
    exact ⟨y, by simpa using hy, hy2⟩
theorem jst2_spec {L : List jV} {j : Nat} {v : jV} {M : List jV} (h : jst2 L j v = some M) : j + 1 < L.length ∧ M = (L.set j v).set (j + 1) vU ∧ (∀ i, j = i + 1 → ∃ y, L[i]? = some y ∧ jisL y = false) := by
  unfold jst2 at h
  split at h
  · rename_i hl
    obtain ⟨m, hm, rfl⟩ := Option.map_eq_some_iff.mp h
    obtain ⟨h1, h2, h3⟩ := jst_spec hm
    subst h2
    exact ⟨hl, rfl, h3⟩
  · cases h
theorem jisL_cat {v : jV} (h : jisL v = false) : (jc v).category ≠ 2 := by
  rw [jc_cat]
  match v, h with
  | .inl _, _ => simp [jcat]
  | .inr (.inr (.inl _)), _ => simp [jcat]
  | .inr (.inr (.inr (.inl _))), _ => simp [jcat]
  | .inr (.inr (.inr (.inr _))), _ => simp [jcat]
theorem jpl_of {L : List jV} {j : Nat} (h : ∀ i, j = i + 1 → ∃ y, L[i]? = some y ∧ jisL y = false) : a_pl (L.map jc) j = false := by
  cases j with
  | zero => rfl
  | succ i =>
    obtain ⟨y, hy, hl⟩ := h i rfl
    simp only [a_pl, List.getElem?_map, hy, Option.map_some]
    simpa using jisL_cat hl
theorem jst_c {L : List jV} {j : Nat} {v : jV} {M : List jV} (h : jst L j v = some M) : a_st1 (L.map jc) j (jc v) = some (M.map jc) := by
  obtain ⟨h1, h2, h3⟩ := jst_spec h
  subst h2
  unfold a_st1
  rw [if_pos ⟨by simpa using h1, jpl_of h3⟩, List.map_set]
theorem jst2_c {L : List jV} {j : Nat} {v : jV} {M : List jV} (h : jst2 L j v = some M) : a_st2 (L.map jc) j (jc v) = some (M.map jc) := by
  obtain ⟨h1, h2, h3⟩ := jst2_spec h
  subst h2
  unfold a_st2
  rw [if_pos ⟨by simpa using h1, jpl_of h3⟩, List.map_set, List.map_set]
  rfl
theorem a_cat_app : ∀ (a b : List Value), a_cat (a ++ b) = a_cat a + a_cat b
  | [], b => by simp [a_cat]
  | x :: t, b => by simp [a_cat, a_cat_app t b, Nat.add_assoc]
theorem a_cat_c (v : jV) (st : List jV) : a_cat ((v :: st).map jc) = jcat v + a_cat (st.map jc) := by simp [a_cat, jc_cat]
/-- a cell is written -/
theorem j_h_set {σ τ : jH} {r : Nat} {q : Nat × Nat} {c : AC} (hq : (hsh σ)[r]? = some q) (hs : hsh τ = hsh σ) (hc : j_cell τ r q = c) (ho : ∀ r' q', r' ≠ r → j_cell τ r' q' = j_cell σ r' q') : (j_h σ).set r c = j_h τ := by
  apply List.ext_getElem?
  intro i
  rw [List.getElem?_set, j_h_get, j_h_get, j_h_len, hs]
  by_cases hi : r = i
  · subst hi
    have hlt := (List.getElem?_eq_some_iff.mp hq).1
    simp only [if_true, hlt, hq, Option.map_some, hc]
  · simp only [hi, if_false]
    congr 1
    funext q'
    exact (ho i q' (fun h => hi h.symm)).symm
theorem j_cell_o {σ τ : jH} {r : Nat} (q : Nat × Nat) (h1 : ∀ j, hi τ r j = hi σ r j) (h2 : ∀ j, hl τ r j = hl σ r j) (h3 : ∀ j, hp τ r j = hp σ r j) : j_cell τ r q = j_cell σ r q := by
  unfold j_cell
  split
  · simp [h1]
  · simp [h2]
  · simp [h3]
  · congr 1
    congr 1
    congr 1
    funext k
    unfold j_fv
    split
    · rw [h1]
    · rw [h2]
    · rw [h3]
theorem j_set_i {σ : jH} {r n k : Nat} {z : Int} (hq : (hsh σ)[r]? = some (0, n)) : (j_h σ).set r (.inl (0, n, .inl (upd (fun j => Int32.ofInt (hi σ r j)) k (Int32.ofInt z)))) = j_h (hsi σ r k z) := by
  refine j_h_set hq rfl ?_ (fun r' q' hr => j_cell_o q' (fun j => ?_) (fun _ => rfl) (fun _ => rfl))
  · show Sum.inl (0, n, Sum.inl _) = _
    congr 4
    funext j
    simp only [hi_si, upd, true_and]
    split <;> rfl
  · rw [hi_si, if_neg (fun h => hr h.1)]
theorem j_set_l {σ : jH} {r n k : Nat} {z : Int} (hq : (hsh σ)[r]? = some (1, n)) : (j_h σ).set r (.inl (1, n, .inr (.inl (vp_updL (fun j => Int64.ofInt (hl σ r j)) k (Int64.ofInt z))))) = j_h (hsl σ r k z) := by
  refine j_h_set hq rfl ?_ (fun r' q' hr => j_cell_o q' (fun _ => rfl) (fun j => ?_) (fun _ => rfl))
  · show Sum.inl (1, n, Sum.inr (Sum.inl _)) = _
    congr 5
    funext j
    simp only [hl_sl, vp_updL, true_and]
    split <;> rfl
  · rw [hl_sl, if_neg (fun h => hr h.1)]
theorem j_set_p {σ : jH} {r n k : Nat} {z : Option Nat} (hq : (hsh σ)[r]? = some (2, n)) : (j_h σ).set r (.inl (2, n, .inr (.inr (.inr (.inr (va_up (fun j => hp σ r j) k z)))))) = j_h (hsp σ r k z) := by
  refine j_h_set hq rfl ?_ (fun r' q' hr => j_cell_o q' (fun _ => rfl) (fun _ => rfl) (fun j => ?_))
  · show Sum.inl (2, n, Sum.inr (Sum.inr (Sum.inr (Sum.inr _)))) = _
    congr 7
    funext j
    simp only [hp_sp, va_up, true_and]
  · rw [hp_sp, if_neg (fun h => hr h.1)]
theorem j_ob {σ : jH} {r ci : Nat} (hq : (hsh σ)[r]? = some (ci + 3, 0)) : (j_h σ)[r]? = some (.inr (ci, (List.range (j_nf ci)).map (j_fv σ r ci))) := by
  rw [j_h_get, hq]
  rfl
theorem j_ar {σ : jH} {r n : Nat} (hq : (hsh σ)[r]? = some (0, n)) : (j_h σ)[r]? = some (.inl (0, n, .inl (fun j => Int32.ofInt (hi σ r j)))) := by
  rw [j_h_get, hq]
  rfl
theorem j_arl {σ : jH} {r n : Nat} (hq : (hsh σ)[r]? = some (1, n)) : (j_h σ)[r]? = some (.inl (1, n, .inr (.inl (fun j => Int64.ofInt (hl σ r j))))) := by
  rw [j_h_get, hq]
  rfl
theorem j_arp {σ : jH} {r n : Nat} (hq : (hsh σ)[r]? = some (2, n)) : (j_h σ)[r]? = some (.inl (2, n, .inr (.inr (.inr (.inr (fun j => hp σ r j)))))) := by
  rw [j_h_get, hq]
  rfl
theorem j_is {σ : jH} {r ci : Nat} (hq : (hsh σ)[r]? = some (ci + 3, 0)) : a_is (j_h σ) r ci = true := by simp [a_is, j_ob hq]
theorem j_fget {σ : jH} {r ci k : Nat} (hk : k < j_nf ci) : ((List.range (j_nf ci)).map (j_fv σ r ci))[k]? = some (j_fv σ r ci k) := by simp [hk]
theorem j_fset {σ τ : jH} {r ci k : Nat} {v : Value} (h1 : j_fv τ r ci k = v) (h2 : ∀ j, j ≠ k → j_fv τ r ci j = j_fv σ r ci j) : ((List.range (j_nf ci)).map (j_fv σ r ci)).set k v = (List.range (j_nf ci)).map (j_fv τ r ci) := by
  apply List.ext_getElem?
  intro j
  rw [List.getElem?_set]
  by_cases hj : k = j
  · subst hj
    by_cases hk : k < j_nf ci
    · simp [hk, h1]
    · simp [hk]
  · simp only [hj, if_false, List.getElem?_map]
    by_cases hk : j < j_nf ci
    · simp [hk, h2 j (fun h => hj h.symm)]
    · simp [hk]
theorem j_put {σ τ : jH} {r ci k : Nat} {v : Value} (hq : (hsh σ)[r]? = some (ci + 3, 0)) (hs : hsh τ = hsh σ) (h1 : j_fv τ r ci k = v) (h2 : ∀ j, j ≠ k → j_fv τ r ci j = j_fv σ r ci j) (ho : ∀ r' q', r' ≠ r → j_cell τ r' q' = j_cell σ r' q') : (j_h σ).set r (.inr (ci, ((List.range (j_nf ci)).map (j_fv σ r ci)).set k v)) = j_h τ := by
  rw [j_fset h1 h2]
  exact j_h_set hq hs rfl ho
theorem j_toN {z : Int} (h1 : 0 ≤ z) (h2 : z ≤ 2147483647) : (Int32.ofInt z).toNatClampNeg = z.toNat := by
  show (Int32.ofInt z).toInt.toNat = z.toNat
  rw [show (Int32.ofInt z).toInt = z from j_w_id (by omega) h2]
theorem j_in {z : Int} {n : Nat} (h1 : 0 ≤ z) (h2 : z < n) (hn : n ≤ 1000000) : a_in (Int32.ofInt z) n = true := by
  rw [a_in_iff]
  unfold vp_in
  rw [j_toN h1 (by omega)]
  have : ¬ Int32.ofInt z < 0 := by
    rw [Int32.lt_iff_toInt_lt]
    rw [show (Int32.ofInt z).toInt = z from j_w_id (by omega) (by omega)]
    simp
    omega
  simp only [this, false_or]
  omega
theorem j_al {σ : jH} {k n : Nat} {c : AC} (hc : j_cell (hal σ k n) (hsh σ).length (k, n) = c) : j_h σ ++ [c] = j_h (hal σ k n) := by
  apply List.ext_getElem?
  intro i
  rw [j_h_get, hsh_al, List.getElem?_append, List.getElem?_append, j_h_len, j_h_get]
  by_cases hi1 : i < (hsh σ).length
  · simp only [hi1, if_true]
    congr 1
    funext q
    have hne : i ≠ (hsh σ).length := by omega
    exact (j_cell_o q (fun j => by rw [hi_al, if_neg hne]) (fun j => by rw [hl_al, if_neg hne]) (fun j => by rw [hp_al, if_neg hne])).symm
  · simp only [hi1, if_false]
    by_cases h0 : i = (hsh σ).length
    · subst h0
      simp [hc]
    · have : i - (hsh σ).length ≠ 0 := by omega
      cases hk : i - (hsh σ).length with
      | zero => omega
      | succ m => simp
end STEPS
