/-! What holds in a method's body, and what lies outside our cells -/
section CTX
/-- what lies outside: the texts, the statics that a throw and a text read, the script; and words that are no good words -/
def g_X (l : Launch) (G : AG) (sc : Nat × (Nat → Int32)) (U : State) (H : Heap) : Prop :=
  (∀ i, i < 27 → ∃ av : Nat, vk_R (a_strs.getD i ("", 0, "")).1 (a_strs.getD i ("", 0, "")).2.1 (a_strs.getD i ("", 0, "")).2.2 (G.2.1 i) U ∧ vk_S 1 [(a_txt i).length] [(a_txt i).map Int32.ofNat] (fun _ => G.2.1 i) (fun _ => av) (g_A G) U H) ∧
  (vx_Zq Bundle.tN "UNASSIGNED_STACK" Bundle.steD (g_A G) U H ∧ vx_Zq Bundle.tN "SUPPRESSED_SENTINEL" Bundle.listD (g_A G) U H) ∧
  (va_Z "java/lang/String" "COMPACT_STRINGS" "Z" (.int 1) (g_A G) U H ∧ va_Zq "jdk/internal/util/Preconditions" "SIOOBE_FORMATTER" "Ljava/util/function/BiFunction;" (g_A G) U H) ∧
  ((∀ a i b n d ho, Cond.fieldLinkNest a i b n d ho ∈ lw_tbl → va_Nw (.fieldLinkNest a i b n d ho) U) ∧ (∀ a i x ho, Cond.methodLinkNest a i x ho ∈ lw_tbl → va_Nw (.methodLinkNest a i x ho) U) ∧ (∀ C T, Cond.castable C T ∈ lw_tbl → va_Nw (.castable C T) U) ∧ (∀ x, Cond.declares x ∈ lw_tbl → va_Nw (.declares x) U)) ∧
  (va_AO RX9 U ∧ va_Nc "java/lang/IllegalArgumentException" "java/util/NoSuchElementException" U) ∧
  l.stackTraces = false ∧ va_X (G.2.1 1000) sc.1 sc.2 U H ∧ G.2.1 1000 < G.1
theorem g_X.warm {l : Launch} {G : AG} {sc : Nat × (Nat → Int32)} {s U : State} {H H' : Heap} (h : g_X l G sc s H) (hW : s.WarmedH U.vm) (hq : ∀ a : Nat, a < H.size → ¬ g_A G a → H'[a]? = H[a]?) : g_X l G sc U H' := by
  obtain ⟨h1, ⟨h2, h3⟩, ⟨h4, h5⟩, ⟨n1, n2, n3, n4⟩, ⟨h6, h7⟩, h8, h9, h10⟩ := h
  refine ⟨fun i hi => ?_, ⟨vx_Zq.moved hW.alike (h2.kept hq), vx_Zq.moved hW.alike (h3.kept hq)⟩, ⟨va_Z.moved hW.alike (h4.kept hq), va_Zq.moved hW.alike (h5.kept hq)⟩, ⟨fun a i b n d ho hm => va_Nw.warmF hW (n1 a i b n d ho hm), fun a i x ho hm => va_Nw.warmM hW (n2 a i x ho hm), fun C T hm => va_Nw.warmC hW (n3 C T hm), fun x hm => va_Nw.warmD hW (n4 x hm)⟩, ⟨va_AO.moved hW.alike h6, ?_⟩, h8, ?_, h10⟩
  · obtain ⟨av, a1, a2⟩ := h1 i hi
    exact ⟨av, a1.warm hW, vk_S.moved hW.alike (a2.kept hq)⟩
  · obtain ⟨c, t, e1, e2, e3⟩ := h7
    exact ⟨c, t, by rw [hW.alike.findClass]; exact e1, by rw [hW.alike.findClass]; exact e2, by rw [hW.alike.assignable]; exact e3⟩
  · refine va_X.moved hW.alike (h9.kept ?_)
    obtain ⟨scr, g1, -⟩ := h9
    exact hq _ (Array.getElem?_eq_some_iff.mp g1).1 (Nat.not_le.mpr h10)
/-- in the body of the method q -/
def g_M (l : Launch) (G : AG) (sc : Nat × (Nat → Int32)) (q : AM) (p : Program) (s : State) (m : MethodId) (args : Array Value) (meth : Method) (c : Code) : Prop :=
  p.tables.exec = Jvm.exec ∧ c.code = q.2.1 ∧ meth.sig.returnType = q.2.2.2.1 ∧ c.maxLocals = q.2.2.1 ∧ s.vm.findClass q.2.2.2.2.1 = some m.cls ∧ (∀ w ∈ a_Ts, w.before args s = true) ∧ meth.locks = false ∧ (q.1.name = "<init>" → meth.name = "<init>") ∧ c.exceptionTable.toList = tableOf q.2.2.2.2.2 ∧ va_K G.2.2.1 a_cl (g_tys G) s ∧ g_X l G sc s s.heap ∧ G.1 ≤ s.heap.size
def p_pc (cd : List AI) (o : Nat) : Nat := match cd[o]? with
  | some e => e.1
  | none => 0
theorem p_pc_n {n : Nat} {cd : List AI} {o : Nat} {e : AI} (h : o_n n cd o e = true) : e.2.2.1 = n ∧ p_pc cd (o + 1) = e.1 + n := by
  simp only [o_n, Bool.and_eq_true, decide_eq_true_eq] at h
  refine ⟨h.1, ?_⟩
  have h2 := h.2
  unfold o_pc at h2
  unfold p_pc
  split at h2
  · rename_i e' he'
    rw [he']
    exact of_decide_eq_true h2
  · cases h2
theorem p_pc_t {cd : List AI} {t : Nat} {q : Int} (h : o_tg cd t q = true) : q = (p_pc cd t : Int) := by
  unfold o_tg at h
  unfold p_pc
  split at h
  · rename_i e' he'
    rw [he']
    exact of_decide_eq_true h
  · cases h
theorem p_pc_j {off : Int} {cd : List AI} {e : AI} {t : Nat} (h : o_j off cd e = true) (hp : e.2.2.2 = [t]) : e.2.2.1 = 3 ∧ (e.1 : Int) + off = (p_pc cd t : Int) := by
  simp only [o_j, Bool.and_eq_true, decide_eq_true_eq] at h
  refine ⟨h.1, ?_⟩
  have h2 := h.2
  rw [hp] at h2
  exact p_pc_t h2
section
variable {p : Program} {l : Launch} {e : Env} {R : Room} {s : State} {m : MethodId} {args : Array Value} {below : List Frame} {meth : Method} {c : Code} {H : Heap} {locs : List Loc} {cells slots : Nat} {Q : State → Prop}
/-- no more cells are there than were counted -/
theorem w_size {g : JFrame} (h : H.size ≤ s.heap.size + cells → W p l e R s m args below meth c H locs cells slots Q g) : W p l e R s m args below meth c H locs cells slots Q g := by
  intro T hT X
  have := X.heapSize
  rw [hT] at this
  exact h this T hT X
end
/-- how it goes on: from every state of the machine that holds what came out -/
def g_K (p : Program) (l : Launch) (e : Env) (R : Room) (s : State) (m : MethodId) (args : Array Value) (below : List Frame) (meth : Method) (c : Code) (Q : State → Prop) (G : AG) (cd : List AI) (h : AH) (cells slots : Nat) (o' : Nat) (L' st' : List Value) (h' : AH) : Prop :=
  ∀ (H' : Heap) (locs' : List Loc) (ls' : Array Slot) (c' s' : Nat), g_P G h' H' → g_L G ls' L' → va_S (g_A G) s.heap H' locs' → c' + h.length = cells + h'.length → s' + a_hsz h = slots + a_hsz h' →
    W p l e R s m args below meth c H' locs' c' s' Q (F0 m (p_pc cd o') ls' (st'.map (g_v G)))
end CTX
