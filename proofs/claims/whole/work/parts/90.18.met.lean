/-! A method's contract out of its body; calls of it -/
section MET
theorem x_met {l : Launch} {y : MethodName} {ws : List Cond} {rm : Room} {Pc : Array Value → State → Prop} {Qc : Array Value → State → Outcome → State → Prop} {XC : String → State → State → Prop} {mc ms : Nat} {free : Addr → Prop} (h : vx_Met l y ws rm Pc Qc XC mc ms free) (hno : ∀ E st t, ¬ XC E st t) : Met l y ws rm Pc Qc mc ms free := by
  intro p e ha hc hk s m args below hf happ hP hKx
  obtain ⟨n, o, h1, h2, h3, hq⟩ := h p e ha hc hk s m args below hf happ hP hKx
  refine ⟨n, o, h1, h2, h3, ?_⟩
  rcases hq with hq | ⟨q, -, E, ce, L, hx, -⟩
  · exact hq
  · exact absurd hx (hno _ _ _)
/-- what a body of the method mi does from (o, L, st, h) on, if the small machine comes to (r, h') -/
def g_Body (l : Launch) (G : AG) (sc : Nat × (Nat → Int32)) (d mi o : Nat) (L st : List Value) (h : AH) (r : Option Value ⊕ Nat) (h' : AH) : Prop :=
  ∀ q, a_ms[mi]? = some q → g_ok mi q → ∀ (p : Program) (e : Env) (R : Room) (s : State) (m : MethodId) (args : Array Value) (below : List Frame) (meth : Method) (c : Code) (h0 z0 : Nat), g_M l G sc q p s m args meth c → d + 8 ≤ R.frames → 60 * d + 150 ≤ R.locals → h'.length ≤ R.cells + h0 → a_hsz h' ≤ R.slots + z0 → s.heap.size = G.1 + h0 →
    ∀ (H : Heap) (locs : List Loc) (ls : Array Slot) (cells slots : Nat), cells + h0 = h.length → slots + z0 = a_hsz h → g_P G h H → g_L G ls L → L.length = q.2.2.1 → va_S (g_A G) s.heap H locs →
      W p l e R s m args below meth c H locs cells slots (vx_MQ below (g_Q G r h') (g_XC G r h') args s (h'.length - h0) (a_hsz h' - z0) (g_A G)) (F0 m (p_pc (a_code mi) o) ls (st.map (g_v G)))
theorem g_cw_in {q : AM} {w : Nat × Nat × Nat} {cd : List AI} {ml : Nat} (h : o_meth q w cd ml = true) : a_cw q ∈ a_Ts ∧ q.2.2.1 = ml ∧ ml ≤ 12 ∧ plainName q.1.cls = true ∧ q.1.cls = q.2.2.2.2.1 ∧ (q.1.cls ≠ "java/lang/invoke/MethodHandle" ∧ q.1.cls ≠ "java/lang/invoke/VarHandle") ∧ (parseMethodDescriptor q.1.desc).map (fun d => d.parameters.length) = some w.2.2 ∧ Cond.initialized q.1.cls ∈ a_Ts ∧ o_all q.2.2.2.2.1 q.2.1 q.2.2.2.1 (decide (q.1.name = "<init>")) cd 0 cd = true ∧ o_pc cd 0 0 = true := by
  simp only [o_meth, Bool.and_eq_true, decide_eq_true_eq] at h
  obtain ⟨⟨⟨⟨⟨⟨⟨⟨⟨⟨h0, h1⟩, h2⟩, h3⟩, h4⟩, h5⟩, h6⟩, h7⟩, h8⟩, h9⟩, h10⟩ := h
  refine ⟨?_, h1, h2, h3, h4, ⟨h5, h6⟩, h7, o_w_in h8, h10, h0⟩
  unfold a_cw
  split at h9
  · rename_i e
    rw [e]
    exact o_w_in h9
  · rename_i e
    split
    · rename_i e2
      exact absurd e2 e
    · exact o_w_in h9
/-- the contract -/
theorem g_met {l : Launch} {G : AG} {sc : Nat × (Nat → Int32)} {d mi : Nat} {vs : List Value} {h h' : AH} {r : Option Value ⊕ Nat} {q : AM} {w : Nat × Nat × Nat} (hq : a_ms[mi]? = some q) (hm : o_meth q w (a_code mi) (a_maxL mi) = true) (hh : o_hd q.2.2.2.2.1 (a_code mi) q.2.2.2.2.2 (a_hand mi) = true) (hn : (a_lay vs).length ≤ a_maxL mi) (hlen : h.length ≤ h'.length) (hsz : a_hsz h ≤ a_hsz h')
    (B : g_Body l G sc d mi 0 (a_enter (a_maxL mi) vs) [] h r h') : vx_Met l q.1 (a_cw q :: a_Ts) (g_rm d (h'.length - h.length) (a_hsz h' - a_hsz h)) (g_Pc l G sc vs h) (g_Q G r h') (g_XC G r h') (h'.length - h.length) (a_hsz h' - a_hsz h) (g_A G) := by
  obtain ⟨c1, c2, c3, c4, c5, c6, c7, c8, c9, c10⟩ := g_cw_in hm
  have hpc : p_pc (a_code mi) 0 = 0 := by
    unfold o_pc at c10
    unfold p_pc
    split at c10
    · rename_i e9 he9
      rw [he9]
      exact of_decide_eq_true c10
    · cases c10
  have body : ∀ (p : Program) (e : Env) (s : State) (m : MethodId) (args : Array Value) (below : List Frame) (meth : Method) (c : Code) (s₁ : State), BodyLoose p l q.1 (headSpec (a_cw q :: a_Ts) (g_rm d (h'.length - h.length) (a_hsz h' - a_hsz h))) q.2.1 q.2.2.1 q.2.2.2.1 e s m args below meth c s₁ → c.maxLocals = q.2.2.1 → c.exceptionTable.toList = tableOf q.2.2.2.2.2 → g_Pc l G sc vs h args s →
      W p l e (headSpec (a_cw q :: a_Ts) (g_rm d (h'.length - h.length) (a_hsz h' - a_hsz h))).room s m args below meth c s.heap [] 0 0 (vx_MQ below (g_Q G r h') (g_XC G r h') args s (h'.length - h.length) (a_hsz h' - a_hsz h) (g_A G)) (entryFrame m args q.2.2.1) := by
    intro p e s m args below meth c s₁ BB hml htab hP
    obtain ⟨rfl, e1, e2, e3, e4⟩ := hP
    have hts := atoms_spec (ws := a_cw q :: a_Ts) BB.pre
    have M : g_M l G sc q p s m (vs.map (g_v G)).toArray meth c := ⟨BB.exec, BB.bytes, BB.returns, hml, by rw [← c5]; exact findClass_of_methodNamed BB.named, fun w hw => hts w (List.mem_cons_of_mem _ hw), BB.notSynchronized, fun hi => by rw [← hi]; exact (name_of_methodNamed BB.named BB.method).1, htab, e3, e4, by omega⟩
    have hL := g_entry G vs (n := q.2.2.1) (by rw [c2]; exact hn)
    rw [lg_entry_eq]
    have hk := B q hq ⟨c9, hh⟩ p e (g_rm d (h'.length - h.length) (a_hsz h' - a_hsz h)) s m _ below meth c h.length (a_hsz h) M (Nat.le_refl _) (Nat.le_refl _) (by show h'.length ≤ h'.length - h.length + h.length; omega) (by show a_hsz h' ≤ a_hsz h' - a_hsz h + a_hsz h; omega) e1 s.heap [] _ 0 0 (Nat.zero_add _) (Nat.zero_add _) e2 (by rw [c2] at hL; exact hL) (by
      unfold a_enter
      rw [List.length_append, List.length_replicate, c2]
      omega) va_S.rf
    rw [hpc] at hk
    rw [c2]
    exact hk
  by_cases hhh : q.2.2.2.2.2 = []
  · refine vx_ofW (cc := q.2.1) (maxL := q.2.2.1) (ret := q.2.2.2.1) c4 (by unfold a_cw; rw [hhh]) (fun p e s m args below meth c s₁ BB hml htab hP => body p e s m args below meth c s₁ BB hml ?_ hP)
    rw [hhh]
    cases ht : c.exceptionTable.toList with
    | nil => rfl
    | cons x t => exact absurd (htab x (by rw [ht]; exact List.mem_cons_self ..)) (fun z => z)
  · have hcw : a_cw q = Cond.codeWith q.1 q.2.1 q.2.2.1 q.2.2.2.1 q.2.2.2.2.2 := by
      unfold a_cw
      split
      · rename_i e2
        exact absurd e2 hhh
      · rfl
    refine vx_ofWH (cc := q.2.1) (maxL := q.2.2.1) (ret := q.2.2.2.1) (hh := q.2.2.2.2.2) c4 (by rw [hcw]) (fun p e s m args below meth c s₁ BB hml hP => body p e s m args below meth c s₁ BB hml ?_ hP)
    exact vx_table (x := q.1) BB (atoms_spec (ws := a_cw q :: a_Ts) BB.pre _ (by rw [hcw]; exact List.mem_cons_self ..))
end MET
