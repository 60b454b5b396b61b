/-! Ends, calls, catches; then: what the small machine does, the JVM does -/
section RUN
abbrev g_rm (d mc ms : Nat) : Room := { frames := d + 8, cells := mc, slots := ms, locals := 60 * d + 150 }
def a_ex (x : Nat) : String := if x = 0 then "java/lang/IllegalArgumentException" else "java/util/NoSuchElementException"
def g_Pc (l : Launch) (G : AG) (sc : Nat × (Nat → Int32)) (vs : List Value) (h : AH) : Array Value → State → Prop := va_Pc (vs.map (g_v G)) (fun U => U.heap.size = G.1 + h.length ∧ g_P G h U.heap ∧ va_K G.2.2.1 a_cl (g_tys G) U ∧ g_X l G sc U U.heap)
def g_Q (G : AG) (r : Option Value ⊕ Nat) (h' : AH) : Array Value → State → Outcome → State → Prop := fun _ st oc t => match r with
  | .inl v => oc = .returned (v.map (g_v G)) ∧ t.heap.size = G.1 + h'.length ∧ g_P G h' t.heap ∧ va_F (g_A G) st t
  | .inr _ => False
def g_XC (G : AG) (r : Option Value ⊕ Nat) (h' : AH) : String → State → State → Prop := fun E st t => match r with
  | .inl _ => False
  | .inr x => x < 2 ∧ E = a_ex x ∧ t.heap.size = G.1 + h'.length ∧ g_P G h' t.heap ∧ va_F (g_A G) st t
noncomputable def a_cw (q : AM) : Cond := match q.2.2.2.2.2 with
  | [] => .code q.1 q.2.1 q.2.2.1 q.2.2.2.1
  | hh => .codeWith q.1 q.2.1 q.2.2.1 q.2.2.2.1 hh
theorem g_Pc_blind {l : Launch} {G : AG} {sc : Nat × (Nat → Int32)} {vs : List Value} {h : AH} : FrameBlind (g_Pc l G sc vs h) := fun a U g mk hq =>
  ⟨hq.1, hq.2.1, hq.2.2.1, va_K.moved (u := U) (U := U.calling g mk a) (Vm.Alike.refl U.vm) hq.2.2.2.1, g_X.warm (s := U) (U := U.calling g mk a) hq.2.2.2.2 (State.WarmedH.refl U) (fun _ _ _ => rfl)⟩
/-- a handler's row, as the tables have it and as ours -/
noncomputable def o_hd1 (own : String) (cd : List AI) (w : Nat × Nat × Nat × Nat) (a : AHd) : Bool :=
  (List.range cd.length).all (fun o => (decide (a.1 ≤ o ∧ o < a.2.1)) == (decide (w.1 ≤ p_pc cd o) && decide (p_pc cd o < w.2.1))) && decide (a.2.2.2.2 < 2) && decide (w.2.2.2 ≠ 0) && decide (Cond.classLink own w.2.2.2 (a_ex a.2.2.2.2) ∈ lw_tbl) && decide (Cond.castable (a_ex a.2.2.2.2) (a_ex a.2.2.2.2) ∈ lw_tbl) && decide (0 < a.2.2.1) &&
  (match cd[a.2.2.1 - 1]? with
    | some e => decide (e.1 = w.2.2.1) && decide (p_pc cd a.2.2.1 = e.1 + e.2.2.1) && (match e.2.1 with
      | .astore_n k => decide (k.val = a.2.2.2.1) && decide (e.2.2.1 = 1)
      | .astore k => decide (k = a.2.2.2.1) && decide (e.2.2.1 = 2)
      | _ => false)
    | none => false)
noncomputable def o_hd (own : String) (cd : List AI) (hh : List (Nat × Nat × Nat × Nat)) (hs : List AHd) : Bool := match hh, hs with
  | [], [] => true
  | [w], [a] => o_hd1 own cd w a
  | [w, w2], [a, a2] => o_hd1 own cd w a && o_hd1 own cd w2 a2 && decide (a.2.2.2.2 = 1) && decide (a2.2.2.2.2 = 0)
  | _, _ => false
/-- all that is checked of a method -/
def g_ok (mi : Nat) (q : AM) : Prop := o_all q.2.2.2.2.1 q.2.1 q.2.2.2.1 (decide (q.1.name = "<init>")) (a_code mi) 0 (a_code mi) = true ∧ o_hd q.2.2.2.2.1 (a_code mi) q.2.2.2.2.2 (a_hand mi) = true
def g_all : Prop := ∀ (mi : Nat) (q : AM) (w : Nat × Nat × Nat), mi < 324 → a_ms[mi]? = some q → a_wps[mi]? = some w → o_meth q w (a_code mi) (a_maxL mi) = true ∧ o_hd q.2.2.2.2.1 (a_code mi) q.2.2.2.2.2 (a_hand mi) = true
section
variable {p : Program} {l : Launch} {e : Env} {R : Room} {s : State} {m : MethodId} {args : Array Value} {below : List Frame} {meth : Method} {c : Code} {H : Heap} {locs : List Loc} {cells slots : Nat} {Q : State → Prop} {G : AG} {sc : Nat × (Nat → Int32)} {q : AM} {cd : List AI} {o pc len : Nat} {i : Instr} {ps : List Nat} {L st : List Value} {h : AH} {h' : AH} {ls : Array Slot} {r : Option Value ⊕ Nat} {h0 z0 : Nat}
theorem g_size (hP : g_P G h H) (hS : va_S (g_A G) s.heap H locs) (hb : G.1 ≤ s.heap.size) (h1 : s.heap.size = G.1 + h0) (h2 : cells + h0 = h.length) (hz : H.size ≤ s.heap.size + cells) : H.size = G.1 + h.length := by
  have := g_low hP (Nat.le_trans hb hS.1)
  omega
/-- the method ends here: it answers -/
theorem s_end (M : g_M l G sc q p s m args meth c) (hok : o_ok q.2.2.2.2.1 q.2.1 q.2.2.2.1 (decide (q.1.name = "<init>")) cd o (pc, i, len, ps) = true) {v : Option Value} (hst : a_step sc o i ps L st h = some (.inr (.inl (.inl v, h')))) (hP : g_P G h H) (hS : va_S (g_A G) s.heap H locs) (hsz : s.heap.size = G.1 + h0) (hc : cells + h0 = h.length) (hs : slots + z0 = a_hsz h) :
    W p l e R s m args below meth c H locs cells slots (vx_MQ below (g_Q G (.inl v) h') (g_XC G (.inl v) h') args s (h'.length - h0) (a_hsz h' - z0) (g_A G)) (F0 m pc ls (st.map (g_v G))) := by
  obtain ⟨hx, hb, hr, hml, hown, hts, hlocks, hin, htab, hK, hX, hbase⟩ := M
  simp only [o_ok, Bool.and_eq_true, decide_eq_true_eq] at hok
  refine w_size (fun hz => ?_)
  have hH := g_size hP hS hbase hsz hc hz
  have key : h' = h ∧ ((∃ x, i = .ireturn ∧ v = some (.int x) ∧ st = [.int x] ∧ len = 1 ∧ ∃ ty, q.2.2.2.1 = some ty ∧ narrow ty (.int x) = .int x) ∨ (∃ x, i = .lreturn ∧ v = some (.long x) ∧ st = [.long x] ∧ len = 1 ∧ q.2.2.2.1 = some .long) ∨ (i = .return_ ∧ v = none ∧ st = [] ∧ len = 1 ∧ q.2.2.2.1 = none)) := by
    cases i
    case ireturn =>
      simp only [a_step] at hst
      split at hst
      · cases hst
        simp only [Bool.and_eq_true, decide_eq_true_eq] at hok
        exact ⟨rfl, Or.inl ⟨_, rfl, rfl, rfl, hok.2.1, _, hok.2.2, rfl⟩⟩
      · split at hst
        · rename_i hn
          cases hst
          simp only [Bool.and_eq_true, decide_eq_true_eq] at hok
          exact ⟨rfl, Or.inl ⟨_, rfl, rfl, rfl, hok.2.1, _, hok.2.2, hn⟩⟩
        · cases hst
      · cases hst
    case lreturn =>
      simp only [a_step] at hst
      split at hst
      · cases hst
        simp only [Bool.and_eq_true, decide_eq_true_eq] at hok
        exact ⟨rfl, Or.inr (Or.inl ⟨_, rfl, rfl, rfl, hok.2.1, hok.2.2⟩)⟩
      · cases hst
    case return_ =>
      simp only [a_step] at hst
      split at hst
      · cases hst
        simp only [Bool.and_eq_true, decide_eq_true_eq] at hok
        exact ⟨rfl, Or.inr (Or.inr ⟨rfl, rfl, rfl, hok.2.1, hok.2.2⟩)⟩
      · cases hst
    all_goals
      exfalso
      revert hst
      simp only [a_step]
      (try unfold a_stI) ; (try unfold a_stA) ; (try unfold a_stL) ; (try unfold a_i2) ; (try unfold a_i2d) ; (try unfold a_l2) ; (try unfold a_l2d) ; (try unfold a_lsh) ; (try unfold a_iald) ; (try unfold a_lald) ; (try unfold a_aald) ; (try unfold a_iast) ; (try unfold a_last) ; (try unfold a_aast) ; (try unfold a_alen)
      repeat' (first | (intro hq; cases hq; done) | (simp [a_go, a_to, a_ld, a_sto]; done) | split | unfold a_br | unfold a_ld | unfold a_sto | unfold a_getf | unfold a_putf | unfold a_newa | unfold a_m2 | unfold a_cpi | unfold a_cpl | unfold a_slen | unfold a_sat | unfold a_callV | unfold a_callI | unfold a_call)
  obtain ⟨rfl, key⟩ := key
  have e1 : h'.length - h0 = cells := by omega
  have e2 : a_hsz h' - z0 = slots := by omega
  rw [e1, e2]
  rcases key with ⟨x, rfl, rfl, rfl, rfl, ty, hty, hn⟩ | ⟨x, rfl, rfl, rfl, rfl, hty⟩ | ⟨rfl, rfl, rfl, rfl, hty⟩
  · exact vx_ret (W.zret hx hb (hr.trans hty) hn (fun t ht hW => ⟨rfl, by rw [ht]; exact hH, by rw [ht]; exact hP, hS.F ht⟩) hS.2.2 hok.1)
  · exact vx_ret (W.lret hx hb (hr.trans hty) (fun t ht hW => ⟨rfl, by rw [ht]; exact hH, by rw [ht]; exact hP, hS.F ht⟩) hS.2.2 hok.1)
  · exact vx_ret (W.vret hx hb (hr.trans hty) (fun t ht hW => ⟨rfl, by rw [ht]; exact hH, by rw [ht]; exact hP, hS.F ht⟩) hS.2.2 hok.1)
end
end RUN
