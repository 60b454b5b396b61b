/-! One instruction of the small machine is what the JVM does -/
section STEP
theorem p_n {n pc len : Nat} {i : Instr} {ps : List Nat} {cd : List AI} {o : Nat} (h : o_n n cd o (pc, i, len, ps) = true) : len = n ∧ p_pc cd (o + 1) = pc + n := p_pc_n h
theorem g_go {o o' : Nat} {L st L' st' : List Value} {h h' : AH} (e : a_go o L st h = some (.inl (o', L', st', h'))) : o' = o + 1 ∧ L' = L ∧ st' = st ∧ h' = h := by
  simp only [a_go, Option.some.injEq, Sum.inl.injEq, Prod.mk.injEq] at e
  obtain ⟨rfl, rfl, rfl, rfl⟩ := e
  exact ⟨rfl, rfl, rfl, rfl⟩
theorem g_to {t o' : Nat} {L st L' st' : List Value} {h h' : AH} (e : a_to t L st h = some (.inl (o', L', st', h'))) : o' = t ∧ L' = L ∧ st' = st ∧ h' = h := by
  simp only [a_to, Option.some.injEq, Sum.inl.injEq, Prod.mk.injEq] at e
  obtain ⟨rfl, rfl, rfl, rfl⟩ := e
  exact ⟨rfl, rfl, rfl, rfl⟩
theorem g_ld {o o' : Nat} {v : Option Value} {L st L' st' : List Value} {h h' : AH} (e : a_ld o v L st h = some (.inl (o', L', st', h'))) : ∃ w, v = some w ∧ o' = o + 1 ∧ L' = L ∧ st' = w :: st ∧ h' = h := by
  unfold a_ld at e
  split at e
  · obtain ⟨rfl, rfl, rfl, rfl⟩ := g_go e
    exact ⟨_, rfl, rfl, rfl, rfl, rfl⟩
  · cases e
theorem g_sto {o o' : Nat} {v : Option (List Value)} {st L' st' : List Value} {h h' : AH} (e : a_sto o v st h = some (.inl (o', L', st', h'))) : v = some L' ∧ o' = o + 1 ∧ st' = st ∧ h' = h := by
  unfold a_sto at e
  split at e
  · obtain ⟨rfl, rfl, rfl, rfl⟩ := g_go e
    exact ⟨rfl, rfl, rfl, rfl⟩
  · cases e
theorem g_st1i {L L' : List Value} {j : Nat} {v : Value} (e : a_st1 L j v = some L') : j < L.length ∧ a_pl L j = false ∧ L' = L.set j v := by
  unfold a_st1 at e
  split at e
  · rename_i hc
    cases e
    exact ⟨hc.1, hc.2, rfl⟩
  · cases e
theorem g_st2i {L L' : List Value} {j : Nat} {v : Value} (e : a_st2 L j v = some L') : j + 1 < L.length ∧ a_pl L j = false ∧ L' = (L.set j v).set (j + 1) a_un := by
  unfold a_st2 at e
  split at e
  · rename_i hc
    cases e
    exact ⟨hc.1, hc.2, rfl⟩
  · cases e
theorem g_ldI {L : List Value} {j : Nat} {w : Value} (e : a_ldI L j = some w) : ∃ x, w = .int x ∧ L[j]? = some (.int x) := by
  unfold a_ldI at e
  split at e
  · rename_i x hx
    cases e
    exact ⟨x, rfl, hx⟩
  · cases e
theorem g_ldL {L : List Value} {j : Nat} {w : Value} (e : a_ldL L j = some w) : ∃ x, w = .long x ∧ L[j]? = some (.long x) := by
  unfold a_ldL at e
  split at e
  · rename_i x hx
    cases e
    exact ⟨x, rfl, hx⟩
  · cases e
theorem g_ldA {G : AG} {L : List Value} {j : Nat} {w : Value} (e : a_ldA L j = some w) : ∃ x, g_v G w = .ref x ∧ L[j]? = some w ∧ w ≠ a_un := by
  unfold a_ldA at e
  split at e
  · rename_i x hx
    cases e
    exact ⟨_, rfl, hx, fun h => by cases h⟩
  · rename_i x hx
    cases e
    exact ⟨_, rfl, hx, fun h => by cases h⟩
  · cases e
section
variable {p : Program} {l : Launch} {e : Env} {R : Room} {s : State} {m : MethodId} {args : Array Value} {below : List Frame} {meth : Method} {c : Code} {H : Heap} {locs : List Loc} {cells slots : Nat} {Q : State → Prop} {G : AG} {sc : Nat × (Nat → Int32)} {q : AM} {cd : List AI} {o pc len : Nat} {i : Instr} {ps : List Nat} {L st : List Value} {h : AH} {o' : Nat} {L' st' : List Value} {h' : AH} {ls : Array Slot}
theorem s_iadd (M : g_M l G sc q p s m args meth c) (hok : o_ok q.2.2.2.2.1 q.2.1 q.2.2.2.1 (decide (q.1.name = "<init>")) cd o (pc, .iadd, len, ps) = true) (hst : a_step sc o (.iadd) ps L st h = some (.inl (o', L', st', h'))) (hP : g_P G h H) (hL : g_L G ls L) (hS : va_S (g_A G) s.heap H locs)
    (kk : g_K p l e R s m args below meth c Q G cd h cells slots o' L' st' h') : W p l e R s m args below meth c H locs cells slots Q (F0 m pc ls (st.map (g_v G))) := by
  obtain ⟨hx, hb, hr, hml, hown, hts, hlocks, hin, htab, hK, hX, hbase⟩ := M
  simp only [o_ok, Bool.and_eq_true, decide_eq_true_eq] at hok
  obtain ⟨hd, hok⟩ := hok
  obtain ⟨rfl, hn⟩ := p_n hok
  simp only [a_step, a_i2] at hst
  split at hst
  · obtain ⟨rfl, rfl, rfl, rfl⟩ := g_go hst
    have k := kk H locs ls cells slots hP hL hS rfl rfl
    rw [hn] at k
    exact lv_iadd hx hb hd k
  · cases hst
theorem s_isub (M : g_M l G sc q p s m args meth c) (hok : o_ok q.2.2.2.2.1 q.2.1 q.2.2.2.1 (decide (q.1.name = "<init>")) cd o (pc, .isub, len, ps) = true) (hst : a_step sc o (.isub) ps L st h = some (.inl (o', L', st', h'))) (hP : g_P G h H) (hL : g_L G ls L) (hS : va_S (g_A G) s.heap H locs)
    (kk : g_K p l e R s m args below meth c Q G cd h cells slots o' L' st' h') : W p l e R s m args below meth c H locs cells slots Q (F0 m pc ls (st.map (g_v G))) := by
  obtain ⟨hx, hb, hr, hml, hown, hts, hlocks, hin, htab, hK, hX, hbase⟩ := M
  simp only [o_ok, Bool.and_eq_true, decide_eq_true_eq] at hok
  obtain ⟨hd, hok⟩ := hok
  obtain ⟨rfl, hn⟩ := p_n hok
  simp only [a_step, a_i2] at hst
  split at hst
  · obtain ⟨rfl, rfl, rfl, rfl⟩ := g_go hst
    have k := kk H locs ls cells slots hP hL hS rfl rfl
    rw [hn] at k
    exact lv_isub hx hb hd k
  · cases hst
theorem s_imul (M : g_M l G sc q p s m args meth c) (hok : o_ok q.2.2.2.2.1 q.2.1 q.2.2.2.1 (decide (q.1.name = "<init>")) cd o (pc, .imul, len, ps) = true) (hst : a_step sc o (.imul) ps L st h = some (.inl (o', L', st', h'))) (hP : g_P G h H) (hL : g_L G ls L) (hS : va_S (g_A G) s.heap H locs)
    (kk : g_K p l e R s m args below meth c Q G cd h cells slots o' L' st' h') : W p l e R s m args below meth c H locs cells slots Q (F0 m pc ls (st.map (g_v G))) := by
  obtain ⟨hx, hb, hr, hml, hown, hts, hlocks, hin, htab, hK, hX, hbase⟩ := M
  simp only [o_ok, Bool.and_eq_true, decide_eq_true_eq] at hok
  obtain ⟨hd, hok⟩ := hok
  obtain ⟨rfl, hn⟩ := p_n hok
  simp only [a_step, a_i2] at hst
  split at hst
  · obtain ⟨rfl, rfl, rfl, rfl⟩ := g_go hst
    have k := kk H locs ls cells slots hP hL hS rfl rfl
    rw [hn] at k
    exact lv_imul hx hb hd k
  · cases hst
theorem s_iand (M : g_M l G sc q p s m args meth c) (hok : o_ok q.2.2.2.2.1 q.2.1 q.2.2.2.1 (decide (q.1.name = "<init>")) cd o (pc, .iand, len, ps) = true) (hst : a_step sc o (.iand) ps L st h = some (.inl (o', L', st', h'))) (hP : g_P G h H) (hL : g_L G ls L) (hS : va_S (g_A G) s.heap H locs)
    (kk : g_K p l e R s m args below meth c Q G cd h cells slots o' L' st' h') : W p l e R s m args below meth c H locs cells slots Q (F0 m pc ls (st.map (g_v G))) := by
  obtain ⟨hx, hb, hr, hml, hown, hts, hlocks, hin, htab, hK, hX, hbase⟩ := M
  simp only [o_ok, Bool.and_eq_true, decide_eq_true_eq] at hok
  obtain ⟨hd, hok⟩ := hok
  obtain ⟨rfl, hn⟩ := p_n hok
  simp only [a_step, a_i2] at hst
  split at hst
  · obtain ⟨rfl, rfl, rfl, rfl⟩ := g_go hst
    have k := kk H locs ls cells slots hP hL hS rfl rfl
    rw [hn] at k
    exact lv_iand hx hb hd k
  · cases hst
theorem s_ior (M : g_M l G sc q p s m args meth c) (hok : o_ok q.2.2.2.2.1 q.2.1 q.2.2.2.1 (decide (q.1.name = "<init>")) cd o (pc, .ior, len, ps) = true) (hst : a_step sc o (.ior) ps L st h = some (.inl (o', L', st', h'))) (hP : g_P G h H) (hL : g_L G ls L) (hS : va_S (g_A G) s.heap H locs)
    (kk : g_K p l e R s m args below meth c Q G cd h cells slots o' L' st' h') : W p l e R s m args below meth c H locs cells slots Q (F0 m pc ls (st.map (g_v G))) := by
  obtain ⟨hx, hb, hr, hml, hown, hts, hlocks, hin, htab, hK, hX, hbase⟩ := M
  simp only [o_ok, Bool.and_eq_true, decide_eq_true_eq] at hok
  obtain ⟨hd, hok⟩ := hok
  obtain ⟨rfl, hn⟩ := p_n hok
  simp only [a_step, a_i2] at hst
  split at hst
  · obtain ⟨rfl, rfl, rfl, rfl⟩ := g_go hst
    have k := kk H locs ls cells slots hP hL hS rfl rfl
    rw [hn] at k
    exact lv_ior hx hb hd k
  · cases hst
theorem s_ixor (M : g_M l G sc q p s m args meth c) (hok : o_ok q.2.2.2.2.1 q.2.1 q.2.2.2.1 (decide (q.1.name = "<init>")) cd o (pc, .ixor, len, ps) = true) (hst : a_step sc o (.ixor) ps L st h = some (.inl (o', L', st', h'))) (hP : g_P G h H) (hL : g_L G ls L) (hS : va_S (g_A G) s.heap H locs)
    (kk : g_K p l e R s m args below meth c Q G cd h cells slots o' L' st' h') : W p l e R s m args below meth c H locs cells slots Q (F0 m pc ls (st.map (g_v G))) := by
  obtain ⟨hx, hb, hr, hml, hown, hts, hlocks, hin, htab, hK, hX, hbase⟩ := M
  simp only [o_ok, Bool.and_eq_true, decide_eq_true_eq] at hok
  obtain ⟨hd, hok⟩ := hok
  obtain ⟨rfl, hn⟩ := p_n hok
  simp only [a_step, a_i2] at hst
  split at hst
  · obtain ⟨rfl, rfl, rfl, rfl⟩ := g_go hst
    have k := kk H locs ls cells slots hP hL hS rfl rfl
    rw [hn] at k
    exact lv_ixor hx hb hd k
  · cases hst
theorem s_ishl (M : g_M l G sc q p s m args meth c) (hok : o_ok q.2.2.2.2.1 q.2.1 q.2.2.2.1 (decide (q.1.name = "<init>")) cd o (pc, .ishl, len, ps) = true) (hst : a_step sc o (.ishl) ps L st h = some (.inl (o', L', st', h'))) (hP : g_P G h H) (hL : g_L G ls L) (hS : va_S (g_A G) s.heap H locs)
    (kk : g_K p l e R s m args below meth c Q G cd h cells slots o' L' st' h') : W p l e R s m args below meth c H locs cells slots Q (F0 m pc ls (st.map (g_v G))) := by
  obtain ⟨hx, hb, hr, hml, hown, hts, hlocks, hin, htab, hK, hX, hbase⟩ := M
  simp only [o_ok, Bool.and_eq_true, decide_eq_true_eq] at hok
  obtain ⟨hd, hok⟩ := hok
  obtain ⟨rfl, hn⟩ := p_n hok
  simp only [a_step, a_i2] at hst
  split at hst
  · obtain ⟨rfl, rfl, rfl, rfl⟩ := g_go hst
    have k := kk H locs ls cells slots hP hL hS rfl rfl
    rw [hn] at k
    exact lv_ishl hx hb hd k
  · cases hst
theorem s_ishr (M : g_M l G sc q p s m args meth c) (hok : o_ok q.2.2.2.2.1 q.2.1 q.2.2.2.1 (decide (q.1.name = "<init>")) cd o (pc, .ishr, len, ps) = true) (hst : a_step sc o (.ishr) ps L st h = some (.inl (o', L', st', h'))) (hP : g_P G h H) (hL : g_L G ls L) (hS : va_S (g_A G) s.heap H locs)
    (kk : g_K p l e R s m args below meth c Q G cd h cells slots o' L' st' h') : W p l e R s m args below meth c H locs cells slots Q (F0 m pc ls (st.map (g_v G))) := by
  obtain ⟨hx, hb, hr, hml, hown, hts, hlocks, hin, htab, hK, hX, hbase⟩ := M
  simp only [o_ok, Bool.and_eq_true, decide_eq_true_eq] at hok
  obtain ⟨hd, hok⟩ := hok
  obtain ⟨rfl, hn⟩ := p_n hok
  simp only [a_step, a_i2] at hst
  split at hst
  · obtain ⟨rfl, rfl, rfl, rfl⟩ := g_go hst
    have k := kk H locs ls cells slots hP hL hS rfl rfl
    rw [hn] at k
    exact lv_ishr hx hb hd k
  · cases hst
theorem s_iushr (M : g_M l G sc q p s m args meth c) (hok : o_ok q.2.2.2.2.1 q.2.1 q.2.2.2.1 (decide (q.1.name = "<init>")) cd o (pc, .iushr, len, ps) = true) (hst : a_step sc o (.iushr) ps L st h = some (.inl (o', L', st', h'))) (hP : g_P G h H) (hL : g_L G ls L) (hS : va_S (g_A G) s.heap H locs)
    (kk : g_K p l e R s m args below meth c Q G cd h cells slots o' L' st' h') : W p l e R s m args below meth c H locs cells slots Q (F0 m pc ls (st.map (g_v G))) := by
  obtain ⟨hx, hb, hr, hml, hown, hts, hlocks, hin, htab, hK, hX, hbase⟩ := M
  simp only [o_ok, Bool.and_eq_true, decide_eq_true_eq] at hok
  obtain ⟨hd, hok⟩ := hok
  obtain ⟨rfl, hn⟩ := p_n hok
  simp only [a_step, a_i2] at hst
  split at hst
  · obtain ⟨rfl, rfl, rfl, rfl⟩ := g_go hst
    have k := kk H locs ls cells slots hP hL hS rfl rfl
    rw [hn] at k
    exact lv_iushr hx hb hd rfl k
  · cases hst
theorem s_ladd (M : g_M l G sc q p s m args meth c) (hok : o_ok q.2.2.2.2.1 q.2.1 q.2.2.2.1 (decide (q.1.name = "<init>")) cd o (pc, .ladd, len, ps) = true) (hst : a_step sc o (.ladd) ps L st h = some (.inl (o', L', st', h'))) (hP : g_P G h H) (hL : g_L G ls L) (hS : va_S (g_A G) s.heap H locs)
    (kk : g_K p l e R s m args below meth c Q G cd h cells slots o' L' st' h') : W p l e R s m args below meth c H locs cells slots Q (F0 m pc ls (st.map (g_v G))) := by
  obtain ⟨hx, hb, hr, hml, hown, hts, hlocks, hin, htab, hK, hX, hbase⟩ := M
  simp only [o_ok, Bool.and_eq_true, decide_eq_true_eq] at hok
  obtain ⟨hd, hok⟩ := hok
  obtain ⟨rfl, hn⟩ := p_n hok
  simp only [a_step, a_l2] at hst
  split at hst
  · obtain ⟨rfl, rfl, rfl, rfl⟩ := g_go hst
    have k := kk H locs ls cells slots hP hL hS rfl rfl
    rw [hn] at k
    exact lv_ladd hx hb hd k
  · cases hst
theorem s_lmul (M : g_M l G sc q p s m args meth c) (hok : o_ok q.2.2.2.2.1 q.2.1 q.2.2.2.1 (decide (q.1.name = "<init>")) cd o (pc, .lmul, len, ps) = true) (hst : a_step sc o (.lmul) ps L st h = some (.inl (o', L', st', h'))) (hP : g_P G h H) (hL : g_L G ls L) (hS : va_S (g_A G) s.heap H locs)
    (kk : g_K p l e R s m args below meth c Q G cd h cells slots o' L' st' h') : W p l e R s m args below meth c H locs cells slots Q (F0 m pc ls (st.map (g_v G))) := by
  obtain ⟨hx, hb, hr, hml, hown, hts, hlocks, hin, htab, hK, hX, hbase⟩ := M
  simp only [o_ok, Bool.and_eq_true, decide_eq_true_eq] at hok
  obtain ⟨hd, hok⟩ := hok
  obtain ⟨rfl, hn⟩ := p_n hok
  simp only [a_step, a_l2] at hst
  split at hst
  · obtain ⟨rfl, rfl, rfl, rfl⟩ := g_go hst
    have k := kk H locs ls cells slots hP hL hS rfl rfl
    rw [hn] at k
    exact lv_lmul hx hb hd k
  · cases hst
theorem s_land (M : g_M l G sc q p s m args meth c) (hok : o_ok q.2.2.2.2.1 q.2.1 q.2.2.2.1 (decide (q.1.name = "<init>")) cd o (pc, .land, len, ps) = true) (hst : a_step sc o (.land) ps L st h = some (.inl (o', L', st', h'))) (hP : g_P G h H) (hL : g_L G ls L) (hS : va_S (g_A G) s.heap H locs)
    (kk : g_K p l e R s m args below meth c Q G cd h cells slots o' L' st' h') : W p l e R s m args below meth c H locs cells slots Q (F0 m pc ls (st.map (g_v G))) := by
  obtain ⟨hx, hb, hr, hml, hown, hts, hlocks, hin, htab, hK, hX, hbase⟩ := M
  simp only [o_ok, Bool.and_eq_true, decide_eq_true_eq] at hok
  obtain ⟨hd, hok⟩ := hok
  obtain ⟨rfl, hn⟩ := p_n hok
  simp only [a_step, a_l2] at hst
  split at hst
  · obtain ⟨rfl, rfl, rfl, rfl⟩ := g_go hst
    have k := kk H locs ls cells slots hP hL hS rfl rfl
    rw [hn] at k
    exact lv_land hx hb hd k
  · cases hst
theorem s_lor (M : g_M l G sc q p s m args meth c) (hok : o_ok q.2.2.2.2.1 q.2.1 q.2.2.2.1 (decide (q.1.name = "<init>")) cd o (pc, .lor, len, ps) = true) (hst : a_step sc o (.lor) ps L st h = some (.inl (o', L', st', h'))) (hP : g_P G h H) (hL : g_L G ls L) (hS : va_S (g_A G) s.heap H locs)
    (kk : g_K p l e R s m args below meth c Q G cd h cells slots o' L' st' h') : W p l e R s m args below meth c H locs cells slots Q (F0 m pc ls (st.map (g_v G))) := by
  obtain ⟨hx, hb, hr, hml, hown, hts, hlocks, hin, htab, hK, hX, hbase⟩ := M
  simp only [o_ok, Bool.and_eq_true, decide_eq_true_eq] at hok
  obtain ⟨hd, hok⟩ := hok
  obtain ⟨rfl, hn⟩ := p_n hok
  simp only [a_step, a_l2] at hst
  split at hst
  · obtain ⟨rfl, rfl, rfl, rfl⟩ := g_go hst
    have k := kk H locs ls cells slots hP hL hS rfl rfl
    rw [hn] at k
    exact lv_lor hx hb hd k
  · cases hst
theorem s_lshl (M : g_M l G sc q p s m args meth c) (hok : o_ok q.2.2.2.2.1 q.2.1 q.2.2.2.1 (decide (q.1.name = "<init>")) cd o (pc, .lshl, len, ps) = true) (hst : a_step sc o (.lshl) ps L st h = some (.inl (o', L', st', h'))) (hP : g_P G h H) (hL : g_L G ls L) (hS : va_S (g_A G) s.heap H locs)
    (kk : g_K p l e R s m args below meth c Q G cd h cells slots o' L' st' h') : W p l e R s m args below meth c H locs cells slots Q (F0 m pc ls (st.map (g_v G))) := by
  obtain ⟨hx, hb, hr, hml, hown, hts, hlocks, hin, htab, hK, hX, hbase⟩ := M
  simp only [o_ok, Bool.and_eq_true, decide_eq_true_eq] at hok
  obtain ⟨hd, hok⟩ := hok
  obtain ⟨rfl, hn⟩ := p_n hok
  simp only [a_step, a_lsh] at hst
  split at hst
  · obtain ⟨rfl, rfl, rfl, rfl⟩ := g_go hst
    have k := kk H locs ls cells slots hP hL hS rfl rfl
    rw [hn] at k
    exact lv_lshl hx hb hd rfl k
  · cases hst
theorem s_lshr (M : g_M l G sc q p s m args meth c) (hok : o_ok q.2.2.2.2.1 q.2.1 q.2.2.2.1 (decide (q.1.name = "<init>")) cd o (pc, .lshr, len, ps) = true) (hst : a_step sc o (.lshr) ps L st h = some (.inl (o', L', st', h'))) (hP : g_P G h H) (hL : g_L G ls L) (hS : va_S (g_A G) s.heap H locs)
    (kk : g_K p l e R s m args below meth c Q G cd h cells slots o' L' st' h') : W p l e R s m args below meth c H locs cells slots Q (F0 m pc ls (st.map (g_v G))) := by
  obtain ⟨hx, hb, hr, hml, hown, hts, hlocks, hin, htab, hK, hX, hbase⟩ := M
  simp only [o_ok, Bool.and_eq_true, decide_eq_true_eq] at hok
  obtain ⟨hd, hok⟩ := hok
  obtain ⟨rfl, hn⟩ := p_n hok
  simp only [a_step, a_lsh] at hst
  split at hst
  · obtain ⟨rfl, rfl, rfl, rfl⟩ := g_go hst
    have k := kk H locs ls cells slots hP hL hS rfl rfl
    rw [hn] at k
    exact lv_lshr hx hb hd rfl k
  · cases hst
theorem s_ineg (M : g_M l G sc q p s m args meth c) (hok : o_ok q.2.2.2.2.1 q.2.1 q.2.2.2.1 (decide (q.1.name = "<init>")) cd o (pc, .ineg, len, ps) = true) (hst : a_step sc o (.ineg) ps L st h = some (.inl (o', L', st', h'))) (hP : g_P G h H) (hL : g_L G ls L) (hS : va_S (g_A G) s.heap H locs)
    (kk : g_K p l e R s m args below meth c Q G cd h cells slots o' L' st' h') : W p l e R s m args below meth c H locs cells slots Q (F0 m pc ls (st.map (g_v G))) := by
  obtain ⟨hx, hb, hr, hml, hown, hts, hlocks, hin, htab, hK, hX, hbase⟩ := M
  simp only [o_ok, Bool.and_eq_true, decide_eq_true_eq] at hok
  obtain ⟨hd, hok⟩ := hok
  obtain ⟨rfl, hn⟩ := p_n hok
  simp only [a_step] at hst
  split at hst
  · obtain ⟨rfl, rfl, rfl, rfl⟩ := g_go hst
    have k := kk H locs ls cells slots hP hL hS rfl rfl
    rw [hn] at k
    exact lv_ineg hx hb hd k
  · cases hst
theorem s_lcmp (M : g_M l G sc q p s m args meth c) (hok : o_ok q.2.2.2.2.1 q.2.1 q.2.2.2.1 (decide (q.1.name = "<init>")) cd o (pc, .lcmp, len, ps) = true) (hst : a_step sc o (.lcmp) ps L st h = some (.inl (o', L', st', h'))) (hP : g_P G h H) (hL : g_L G ls L) (hS : va_S (g_A G) s.heap H locs)
    (kk : g_K p l e R s m args below meth c Q G cd h cells slots o' L' st' h') : W p l e R s m args below meth c H locs cells slots Q (F0 m pc ls (st.map (g_v G))) := by
  obtain ⟨hx, hb, hr, hml, hown, hts, hlocks, hin, htab, hK, hX, hbase⟩ := M
  simp only [o_ok, Bool.and_eq_true, decide_eq_true_eq] at hok
  obtain ⟨hd, hok⟩ := hok
  obtain ⟨rfl, hn⟩ := p_n hok
  simp only [a_step] at hst
  split at hst
  · obtain ⟨rfl, rfl, rfl, rfl⟩ := g_go hst
    have k := kk H locs ls cells slots hP hL hS rfl rfl
    rw [hn] at k
    exact W.lcmp hx hb hd k
  · cases hst
theorem s_i2l (M : g_M l G sc q p s m args meth c) (hok : o_ok q.2.2.2.2.1 q.2.1 q.2.2.2.1 (decide (q.1.name = "<init>")) cd o (pc, .i2l, len, ps) = true) (hst : a_step sc o (.i2l) ps L st h = some (.inl (o', L', st', h'))) (hP : g_P G h H) (hL : g_L G ls L) (hS : va_S (g_A G) s.heap H locs)
    (kk : g_K p l e R s m args below meth c Q G cd h cells slots o' L' st' h') : W p l e R s m args below meth c H locs cells slots Q (F0 m pc ls (st.map (g_v G))) := by
  obtain ⟨hx, hb, hr, hml, hown, hts, hlocks, hin, htab, hK, hX, hbase⟩ := M
  simp only [o_ok, Bool.and_eq_true, decide_eq_true_eq] at hok
  obtain ⟨hd, hok⟩ := hok
  obtain ⟨rfl, hn⟩ := p_n hok
  simp only [a_step] at hst
  split at hst
  · obtain ⟨rfl, rfl, rfl, rfl⟩ := g_go hst
    have k := kk H locs ls cells slots hP hL hS rfl rfl
    rw [hn] at k
    exact lv_i2l hx hb hd rfl k
  · cases hst
theorem s_l2i (M : g_M l G sc q p s m args meth c) (hok : o_ok q.2.2.2.2.1 q.2.1 q.2.2.2.1 (decide (q.1.name = "<init>")) cd o (pc, .l2i, len, ps) = true) (hst : a_step sc o (.l2i) ps L st h = some (.inl (o', L', st', h'))) (hP : g_P G h H) (hL : g_L G ls L) (hS : va_S (g_A G) s.heap H locs)
    (kk : g_K p l e R s m args below meth c Q G cd h cells slots o' L' st' h') : W p l e R s m args below meth c H locs cells slots Q (F0 m pc ls (st.map (g_v G))) := by
  obtain ⟨hx, hb, hr, hml, hown, hts, hlocks, hin, htab, hK, hX, hbase⟩ := M
  simp only [o_ok, Bool.and_eq_true, decide_eq_true_eq] at hok
  obtain ⟨hd, hok⟩ := hok
  obtain ⟨rfl, hn⟩ := p_n hok
  simp only [a_step] at hst
  split at hst
  · obtain ⟨rfl, rfl, rfl, rfl⟩ := g_go hst
    have k := kk H locs ls cells slots hP hL hS rfl rfl
    rw [hn] at k
    exact lv_l2i hx hb hd rfl k
  · cases hst
theorem s_idiv (M : g_M l G sc q p s m args meth c) (hok : o_ok q.2.2.2.2.1 q.2.1 q.2.2.2.1 (decide (q.1.name = "<init>")) cd o (pc, .idiv, len, ps) = true) (hst : a_step sc o (.idiv) ps L st h = some (.inl (o', L', st', h'))) (hP : g_P G h H) (hL : g_L G ls L) (hS : va_S (g_A G) s.heap H locs)
    (kk : g_K p l e R s m args below meth c Q G cd h cells slots o' L' st' h') : W p l e R s m args below meth c H locs cells slots Q (F0 m pc ls (st.map (g_v G))) := by
  obtain ⟨hx, hb, hr, hml, hown, hts, hlocks, hin, htab, hK, hX, hbase⟩ := M
  simp only [o_ok, Bool.and_eq_true, decide_eq_true_eq] at hok
  obtain ⟨hd, hok⟩ := hok
  obtain ⟨rfl, hn⟩ := p_n hok
  simp only [a_step, a_i2d] at hst
  split at hst
  · split at hst
    · cases hst
    · rename_i hne
      obtain ⟨rfl, rfl, rfl, rfl⟩ := g_go hst
      have k := kk H locs ls cells slots hP hL hS rfl rfl
      rw [hn] at k
      exact lv_idiv hx hb hd hne k
  · cases hst
theorem s_irem (M : g_M l G sc q p s m args meth c) (hok : o_ok q.2.2.2.2.1 q.2.1 q.2.2.2.1 (decide (q.1.name = "<init>")) cd o (pc, .irem, len, ps) = true) (hst : a_step sc o (.irem) ps L st h = some (.inl (o', L', st', h'))) (hP : g_P G h H) (hL : g_L G ls L) (hS : va_S (g_A G) s.heap H locs)
    (kk : g_K p l e R s m args below meth c Q G cd h cells slots o' L' st' h') : W p l e R s m args below meth c H locs cells slots Q (F0 m pc ls (st.map (g_v G))) := by
  obtain ⟨hx, hb, hr, hml, hown, hts, hlocks, hin, htab, hK, hX, hbase⟩ := M
  simp only [o_ok, Bool.and_eq_true, decide_eq_true_eq] at hok
  obtain ⟨hd, hok⟩ := hok
  obtain ⟨rfl, hn⟩ := p_n hok
  simp only [a_step, a_i2d] at hst
  split at hst
  · split at hst
    · cases hst
    · rename_i hne
      obtain ⟨rfl, rfl, rfl, rfl⟩ := g_go hst
      have k := kk H locs ls cells slots hP hL hS rfl rfl
      rw [hn] at k
      exact lv_irem hx hb hd hne k
  · cases hst
theorem s_ldiv (M : g_M l G sc q p s m args meth c) (hok : o_ok q.2.2.2.2.1 q.2.1 q.2.2.2.1 (decide (q.1.name = "<init>")) cd o (pc, .ldiv, len, ps) = true) (hst : a_step sc o (.ldiv) ps L st h = some (.inl (o', L', st', h'))) (hP : g_P G h H) (hL : g_L G ls L) (hS : va_S (g_A G) s.heap H locs)
    (kk : g_K p l e R s m args below meth c Q G cd h cells slots o' L' st' h') : W p l e R s m args below meth c H locs cells slots Q (F0 m pc ls (st.map (g_v G))) := by
  obtain ⟨hx, hb, hr, hml, hown, hts, hlocks, hin, htab, hK, hX, hbase⟩ := M
  simp only [o_ok, Bool.and_eq_true, decide_eq_true_eq] at hok
  obtain ⟨hd, hok⟩ := hok
  obtain ⟨rfl, hn⟩ := p_n hok
  simp only [a_step, a_l2d] at hst
  split at hst
  · split at hst
    · cases hst
    · rename_i hne
      obtain ⟨rfl, rfl, rfl, rfl⟩ := g_go hst
      have k := kk H locs ls cells slots hP hL hS rfl rfl
      rw [hn] at k
      exact lv_ldiv hx hb hd hne k
  · cases hst
theorem s_lrem (M : g_M l G sc q p s m args meth c) (hok : o_ok q.2.2.2.2.1 q.2.1 q.2.2.2.1 (decide (q.1.name = "<init>")) cd o (pc, .lrem, len, ps) = true) (hst : a_step sc o (.lrem) ps L st h = some (.inl (o', L', st', h'))) (hP : g_P G h H) (hL : g_L G ls L) (hS : va_S (g_A G) s.heap H locs)
    (kk : g_K p l e R s m args below meth c Q G cd h cells slots o' L' st' h') : W p l e R s m args below meth c H locs cells slots Q (F0 m pc ls (st.map (g_v G))) := by
  obtain ⟨hx, hb, hr, hml, hown, hts, hlocks, hin, htab, hK, hX, hbase⟩ := M
  simp only [o_ok, Bool.and_eq_true, decide_eq_true_eq] at hok
  obtain ⟨hd, hok⟩ := hok
  obtain ⟨rfl, hn⟩ := p_n hok
  simp only [a_step, a_l2d] at hst
  split at hst
  · split at hst
    · cases hst
    · rename_i hne
      obtain ⟨rfl, rfl, rfl, rfl⟩ := g_go hst
      have k := kk H locs ls cells slots hP hL hS rfl rfl
      rw [hn] at k
      exact lv_lrem hx hb hd hne k
  · cases hst
theorem s_dup (M : g_M l G sc q p s m args meth c) (hok : o_ok q.2.2.2.2.1 q.2.1 q.2.2.2.1 (decide (q.1.name = "<init>")) cd o (pc, .dup, len, ps) = true) (hst : a_step sc o (.dup) ps L st h = some (.inl (o', L', st', h'))) (hP : g_P G h H) (hL : g_L G ls L) (hS : va_S (g_A G) s.heap H locs)
    (kk : g_K p l e R s m args below meth c Q G cd h cells slots o' L' st' h') : W p l e R s m args below meth c H locs cells slots Q (F0 m pc ls (st.map (g_v G))) := by
  obtain ⟨hx, hb, hr, hml, hown, hts, hlocks, hin, htab, hK, hX, hbase⟩ := M
  simp only [o_ok, Bool.and_eq_true, decide_eq_true_eq] at hok
  obtain ⟨hd, hok⟩ := hok
  obtain ⟨rfl, hn⟩ := p_n hok
  simp only [a_step] at hst
  split at hst
  · split at hst
    · rename_i hc
      obtain ⟨rfl, rfl, rfl, rfl⟩ := g_go hst
      have k := kk H locs ls cells slots hP hL hS rfl rfl
      rw [hn] at k
      exact lv_dup hx hb hd (by rw [g_cat]; exact hc) k
    · cases hst
  · cases hst
theorem s_pop (M : g_M l G sc q p s m args meth c) (hok : o_ok q.2.2.2.2.1 q.2.1 q.2.2.2.1 (decide (q.1.name = "<init>")) cd o (pc, .pop, len, ps) = true) (hst : a_step sc o (.pop) ps L st h = some (.inl (o', L', st', h'))) (hP : g_P G h H) (hL : g_L G ls L) (hS : va_S (g_A G) s.heap H locs)
    (kk : g_K p l e R s m args below meth c Q G cd h cells slots o' L' st' h') : W p l e R s m args below meth c H locs cells slots Q (F0 m pc ls (st.map (g_v G))) := by
  obtain ⟨hx, hb, hr, hml, hown, hts, hlocks, hin, htab, hK, hX, hbase⟩ := M
  simp only [o_ok, Bool.and_eq_true, decide_eq_true_eq] at hok
  obtain ⟨hd, hok⟩ := hok
  obtain ⟨rfl, hn⟩ := p_n hok
  simp only [a_step] at hst
  split at hst
  · split at hst
    · rename_i hc
      obtain ⟨rfl, rfl, rfl, rfl⟩ := g_go hst
      have k := kk H locs ls cells slots hP hL hS rfl rfl
      rw [hn] at k
      exact lv_pop hx hb hd (by rw [g_cat]; exact hc) k
    · cases hst
  · cases hst
theorem s_dup2 (M : g_M l G sc q p s m args meth c) (hok : o_ok q.2.2.2.2.1 q.2.1 q.2.2.2.1 (decide (q.1.name = "<init>")) cd o (pc, .dup2, len, ps) = true) (hst : a_step sc o (.dup2) ps L st h = some (.inl (o', L', st', h'))) (hP : g_P G h H) (hL : g_L G ls L) (hS : va_S (g_A G) s.heap H locs)
    (kk : g_K p l e R s m args below meth c Q G cd h cells slots o' L' st' h') : W p l e R s m args below meth c H locs cells slots Q (F0 m pc ls (st.map (g_v G))) := by
  obtain ⟨hx, hb, hr, hml, hown, hts, hlocks, hin, htab, hK, hX, hbase⟩ := M
  simp only [o_ok, Bool.and_eq_true, decide_eq_true_eq] at hok
  obtain ⟨hd, hok⟩ := hok
  obtain ⟨rfl, hn⟩ := p_n hok
  simp only [a_step] at hst
  split at hst
  · split at hst
    · rename_i hc
      obtain ⟨rfl, rfl, rfl, rfl⟩ := g_go hst
      have k := kk H locs ls cells slots hP hL hS rfl rfl
      rw [hn] at k
      exact lv_dup2_11 hx hb hd (by rw [g_cat]; exact hc.1) (by rw [g_cat]; exact hc.2) k
    · cases hst
  · cases hst
theorem s_iconst (M : g_M l G sc q p s m args meth c) {z : Int} (hok : o_ok q.2.2.2.2.1 q.2.1 q.2.2.2.1 (decide (q.1.name = "<init>")) cd o (pc, .iconst z, len, ps) = true) (hst : a_step sc o (.iconst z) ps L st h = some (.inl (o', L', st', h'))) (hP : g_P G h H) (hL : g_L G ls L) (hS : va_S (g_A G) s.heap H locs)
    (kk : g_K p l e R s m args below meth c Q G cd h cells slots o' L' st' h') : W p l e R s m args below meth c H locs cells slots Q (F0 m pc ls (st.map (g_v G))) := by
  obtain ⟨hx, hb, hr, hml, hown, hts, hlocks, hin, htab, hK, hX, hbase⟩ := M
  simp only [o_ok, Bool.and_eq_true, decide_eq_true_eq] at hok
  obtain ⟨hd, hok⟩ := hok
  obtain ⟨rfl, hn⟩ := p_n hok
  obtain ⟨rfl, rfl, rfl, rfl⟩ := g_go hst
  have k := kk H locs ls cells slots hP hL hS rfl rfl
  rw [hn] at k
  exact lv_iconst hx hb hd rfl k
theorem s_bipush (M : g_M l G sc q p s m args meth c) {z : Int} (hok : o_ok q.2.2.2.2.1 q.2.1 q.2.2.2.1 (decide (q.1.name = "<init>")) cd o (pc, .bipush z, len, ps) = true) (hst : a_step sc o (.bipush z) ps L st h = some (.inl (o', L', st', h'))) (hP : g_P G h H) (hL : g_L G ls L) (hS : va_S (g_A G) s.heap H locs)
    (kk : g_K p l e R s m args below meth c Q G cd h cells slots o' L' st' h') : W p l e R s m args below meth c H locs cells slots Q (F0 m pc ls (st.map (g_v G))) := by
  obtain ⟨hx, hb, hr, hml, hown, hts, hlocks, hin, htab, hK, hX, hbase⟩ := M
  simp only [o_ok, Bool.and_eq_true, decide_eq_true_eq] at hok
  obtain ⟨hd, hok⟩ := hok
  obtain ⟨rfl, hn⟩ := p_n hok
  obtain ⟨rfl, rfl, rfl, rfl⟩ := g_go hst
  have k := kk H locs ls cells slots hP hL hS rfl rfl
  rw [hn] at k
  exact lv_bipush hx hb hd rfl k
theorem s_sipush (M : g_M l G sc q p s m args meth c) {z : Int} (hok : o_ok q.2.2.2.2.1 q.2.1 q.2.2.2.1 (decide (q.1.name = "<init>")) cd o (pc, .sipush z, len, ps) = true) (hst : a_step sc o (.sipush z) ps L st h = some (.inl (o', L', st', h'))) (hP : g_P G h H) (hL : g_L G ls L) (hS : va_S (g_A G) s.heap H locs)
    (kk : g_K p l e R s m args below meth c Q G cd h cells slots o' L' st' h') : W p l e R s m args below meth c H locs cells slots Q (F0 m pc ls (st.map (g_v G))) := by
  obtain ⟨hx, hb, hr, hml, hown, hts, hlocks, hin, htab, hK, hX, hbase⟩ := M
  simp only [o_ok, Bool.and_eq_true, decide_eq_true_eq] at hok
  obtain ⟨hd, hok⟩ := hok
  obtain ⟨rfl, hn⟩ := p_n hok
  obtain ⟨rfl, rfl, rfl, rfl⟩ := g_go hst
  have k := kk H locs ls cells slots hP hL hS rfl rfl
  rw [hn] at k
  exact lv_sipush hx hb hd rfl k
theorem s_lconst (M : g_M l G sc q p s m args meth c) {z : Fin 2} (hok : o_ok q.2.2.2.2.1 q.2.1 q.2.2.2.1 (decide (q.1.name = "<init>")) cd o (pc, .lconst z, len, ps) = true) (hst : a_step sc o (.lconst z) ps L st h = some (.inl (o', L', st', h'))) (hP : g_P G h H) (hL : g_L G ls L) (hS : va_S (g_A G) s.heap H locs)
    (kk : g_K p l e R s m args below meth c Q G cd h cells slots o' L' st' h') : W p l e R s m args below meth c H locs cells slots Q (F0 m pc ls (st.map (g_v G))) := by
  obtain ⟨hx, hb, hr, hml, hown, hts, hlocks, hin, htab, hK, hX, hbase⟩ := M
  simp only [o_ok, Bool.and_eq_true, decide_eq_true_eq] at hok
  obtain ⟨hd, hok⟩ := hok
  obtain ⟨rfl, hn⟩ := p_n hok
  obtain ⟨rfl, rfl, rfl, rfl⟩ := g_go hst
  have k := kk H locs ls cells slots hP hL hS rfl rfl
  rw [hn] at k
  exact lv_lconst hx hb hd rfl k
theorem s_null (M : g_M l G sc q p s m args meth c) (hok : o_ok q.2.2.2.2.1 q.2.1 q.2.2.2.1 (decide (q.1.name = "<init>")) cd o (pc, .aconst_null, len, ps) = true) (hst : a_step sc o (.aconst_null) ps L st h = some (.inl (o', L', st', h'))) (hP : g_P G h H) (hL : g_L G ls L) (hS : va_S (g_A G) s.heap H locs)
    (kk : g_K p l e R s m args below meth c Q G cd h cells slots o' L' st' h') : W p l e R s m args below meth c H locs cells slots Q (F0 m pc ls (st.map (g_v G))) := by
  obtain ⟨hx, hb, hr, hml, hown, hts, hlocks, hin, htab, hK, hX, hbase⟩ := M
  simp only [o_ok, Bool.and_eq_true, decide_eq_true_eq] at hok
  obtain ⟨hd, hok⟩ := hok
  obtain ⟨rfl, hn⟩ := p_n hok
  obtain ⟨rfl, rfl, rfl, rfl⟩ := g_go hst
  have k := kk H locs ls cells slots hP hL hS rfl rfl
  rw [hn] at k
  exact lv_null hx hb hd k
theorem s_iload_n (M : g_M l G sc q p s m args meth c) {z : Fin 4} (hok : o_ok q.2.2.2.2.1 q.2.1 q.2.2.2.1 (decide (q.1.name = "<init>")) cd o (pc, .iload_n z, len, ps) = true) (hst : a_step sc o (.iload_n z) ps L st h = some (.inl (o', L', st', h'))) (hP : g_P G h H) (hL : g_L G ls L) (hS : va_S (g_A G) s.heap H locs)
    (kk : g_K p l e R s m args below meth c Q G cd h cells slots o' L' st' h') : W p l e R s m args below meth c H locs cells slots Q (F0 m pc ls (st.map (g_v G))) := by
  obtain ⟨hx, hb, hr, hml, hown, hts, hlocks, hin, htab, hK, hX, hbase⟩ := M
  simp only [o_ok, Bool.and_eq_true, decide_eq_true_eq] at hok
  obtain ⟨hd, hok⟩ := hok
  obtain ⟨rfl, hn⟩ := p_n hok
  obtain ⟨w, hw, rfl, rfl, rfl, rfl⟩ := g_ld hst
  have k := kk H locs ls cells slots hP hL hS rfl rfl
  rw [hn] at k
  obtain ⟨x, rfl, hj⟩ := g_ldI hw
  have hl := hL.2.2 _ _ hj (fun h => by cases h)
  exact lv_iload_n hx hb hd rfl hl k
theorem s_iload (M : g_M l G sc q p s m args meth c) {z : Nat} (hok : o_ok q.2.2.2.2.1 q.2.1 q.2.2.2.1 (decide (q.1.name = "<init>")) cd o (pc, .iload z, len, ps) = true) (hst : a_step sc o (.iload z) ps L st h = some (.inl (o', L', st', h'))) (hP : g_P G h H) (hL : g_L G ls L) (hS : va_S (g_A G) s.heap H locs)
    (kk : g_K p l e R s m args below meth c Q G cd h cells slots o' L' st' h') : W p l e R s m args below meth c H locs cells slots Q (F0 m pc ls (st.map (g_v G))) := by
  obtain ⟨hx, hb, hr, hml, hown, hts, hlocks, hin, htab, hK, hX, hbase⟩ := M
  simp only [o_ok, Bool.and_eq_true, decide_eq_true_eq] at hok
  obtain ⟨hd, hok⟩ := hok
  obtain ⟨rfl, hn⟩ := p_n hok
  obtain ⟨w, hw, rfl, rfl, rfl, rfl⟩ := g_ld hst
  have k := kk H locs ls cells slots hP hL hS rfl rfl
  rw [hn] at k
  obtain ⟨x, rfl, hj⟩ := g_ldI hw
  have hl := hL.2.2 _ _ hj (fun h => by cases h)
  exact lv_iload hx hb hd hl k
theorem s_lload_n (M : g_M l G sc q p s m args meth c) {z : Fin 4} (hok : o_ok q.2.2.2.2.1 q.2.1 q.2.2.2.1 (decide (q.1.name = "<init>")) cd o (pc, .lload_n z, len, ps) = true) (hst : a_step sc o (.lload_n z) ps L st h = some (.inl (o', L', st', h'))) (hP : g_P G h H) (hL : g_L G ls L) (hS : va_S (g_A G) s.heap H locs)
    (kk : g_K p l e R s m args below meth c Q G cd h cells slots o' L' st' h') : W p l e R s m args below meth c H locs cells slots Q (F0 m pc ls (st.map (g_v G))) := by
  obtain ⟨hx, hb, hr, hml, hown, hts, hlocks, hin, htab, hK, hX, hbase⟩ := M
  simp only [o_ok, Bool.and_eq_true, decide_eq_true_eq] at hok
  obtain ⟨hd, hok⟩ := hok
  obtain ⟨rfl, hn⟩ := p_n hok
  obtain ⟨w, hw, rfl, rfl, rfl, rfl⟩ := g_ld hst
  have k := kk H locs ls cells slots hP hL hS rfl rfl
  rw [hn] at k
  obtain ⟨x, rfl, hj⟩ := g_ldL hw
  have hl := hL.2.2 _ _ hj (fun h => by cases h)
  exact lv_lload_n hx hb hd rfl hl k
theorem s_lload (M : g_M l G sc q p s m args meth c) {z : Nat} (hok : o_ok q.2.2.2.2.1 q.2.1 q.2.2.2.1 (decide (q.1.name = "<init>")) cd o (pc, .lload z, len, ps) = true) (hst : a_step sc o (.lload z) ps L st h = some (.inl (o', L', st', h'))) (hP : g_P G h H) (hL : g_L G ls L) (hS : va_S (g_A G) s.heap H locs)
    (kk : g_K p l e R s m args below meth c Q G cd h cells slots o' L' st' h') : W p l e R s m args below meth c H locs cells slots Q (F0 m pc ls (st.map (g_v G))) := by
  obtain ⟨hx, hb, hr, hml, hown, hts, hlocks, hin, htab, hK, hX, hbase⟩ := M
  simp only [o_ok, Bool.and_eq_true, decide_eq_true_eq] at hok
  obtain ⟨hd, hok⟩ := hok
  obtain ⟨rfl, hn⟩ := p_n hok
  obtain ⟨w, hw, rfl, rfl, rfl, rfl⟩ := g_ld hst
  have k := kk H locs ls cells slots hP hL hS rfl rfl
  rw [hn] at k
  obtain ⟨x, rfl, hj⟩ := g_ldL hw
  have hl := hL.2.2 _ _ hj (fun h => by cases h)
  exact lv_lload hx hb hd hl k
theorem s_aload_n (M : g_M l G sc q p s m args meth c) {z : Fin 4} (hok : o_ok q.2.2.2.2.1 q.2.1 q.2.2.2.1 (decide (q.1.name = "<init>")) cd o (pc, .aload_n z, len, ps) = true) (hst : a_step sc o (.aload_n z) ps L st h = some (.inl (o', L', st', h'))) (hP : g_P G h H) (hL : g_L G ls L) (hS : va_S (g_A G) s.heap H locs)
    (kk : g_K p l e R s m args below meth c Q G cd h cells slots o' L' st' h') : W p l e R s m args below meth c H locs cells slots Q (F0 m pc ls (st.map (g_v G))) := by
  obtain ⟨hx, hb, hr, hml, hown, hts, hlocks, hin, htab, hK, hX, hbase⟩ := M
  simp only [o_ok, Bool.and_eq_true, decide_eq_true_eq] at hok
  obtain ⟨hd, hok⟩ := hok
  obtain ⟨rfl, hn⟩ := p_n hok
  obtain ⟨w, hw, rfl, rfl, rfl, rfl⟩ := g_ld hst
  have k := kk H locs ls cells slots hP hL hS rfl rfl
  rw [hn] at k
  obtain ⟨x, hwx, hj, hne⟩ := g_ldA (G := G) hw
  have hl := hL.2.2 _ _ hj hne
  rw [hwx] at hl
  rw [List.map_cons, hwx] at k
  exact lv_aload_n hx hb hd rfl hl k
theorem s_aload (M : g_M l G sc q p s m args meth c) {z : Nat} (hok : o_ok q.2.2.2.2.1 q.2.1 q.2.2.2.1 (decide (q.1.name = "<init>")) cd o (pc, .aload z, len, ps) = true) (hst : a_step sc o (.aload z) ps L st h = some (.inl (o', L', st', h'))) (hP : g_P G h H) (hL : g_L G ls L) (hS : va_S (g_A G) s.heap H locs)
    (kk : g_K p l e R s m args below meth c Q G cd h cells slots o' L' st' h') : W p l e R s m args below meth c H locs cells slots Q (F0 m pc ls (st.map (g_v G))) := by
  obtain ⟨hx, hb, hr, hml, hown, hts, hlocks, hin, htab, hK, hX, hbase⟩ := M
  simp only [o_ok, Bool.and_eq_true, decide_eq_true_eq] at hok
  obtain ⟨hd, hok⟩ := hok
  obtain ⟨rfl, hn⟩ := p_n hok
  obtain ⟨w, hw, rfl, rfl, rfl, rfl⟩ := g_ld hst
  have k := kk H locs ls cells slots hP hL hS rfl rfl
  rw [hn] at k
  obtain ⟨x, hwx, hj, hne⟩ := g_ldA (G := G) hw
  have hl := hL.2.2 _ _ hj hne
  rw [hwx] at hl
  rw [List.map_cons, hwx] at k
  exact lv_aload hx hb hd hl k
theorem s_istore_n (M : g_M l G sc q p s m args meth c) {z : Fin 4} (hok : o_ok q.2.2.2.2.1 q.2.1 q.2.2.2.1 (decide (q.1.name = "<init>")) cd o (pc, .istore_n z, len, ps) = true) (hst : a_step sc o (.istore_n z) ps L st h = some (.inl (o', L', st', h'))) (hP : g_P G h H) (hL : g_L G ls L) (hS : va_S (g_A G) s.heap H locs)
    (kk : g_K p l e R s m args below meth c Q G cd h cells slots o' L' st' h') : W p l e R s m args below meth c H locs cells slots Q (F0 m pc ls (st.map (g_v G))) := by
  obtain ⟨hx, hb, hr, hml, hown, hts, hlocks, hin, htab, hK, hX, hbase⟩ := M
  simp only [o_ok, Bool.and_eq_true, decide_eq_true_eq] at hok
  obtain ⟨hd, hok⟩ := hok
  obtain ⟨rfl, hn⟩ := p_n hok
  simp only [a_step, a_stI] at hst
  split at hst
  · obtain ⟨hv, rfl, rfl, rfl⟩ := g_sto hst
    obtain ⟨h1, h2, rfl⟩ := g_st1i hv
    refine lv_istore_n hx hb hd rfl hL.has h1 rfl (fun ls' hl' => ?_)
    have k := kk H locs ls' cells slots hP (g_st1 hl' h2) hS rfl rfl
    rw [hn] at k
    exact k
  · cases hst
theorem s_istore (M : g_M l G sc q p s m args meth c) {z : Nat} (hok : o_ok q.2.2.2.2.1 q.2.1 q.2.2.2.1 (decide (q.1.name = "<init>")) cd o (pc, .istore z, len, ps) = true) (hst : a_step sc o (.istore z) ps L st h = some (.inl (o', L', st', h'))) (hP : g_P G h H) (hL : g_L G ls L) (hS : va_S (g_A G) s.heap H locs)
    (kk : g_K p l e R s m args below meth c Q G cd h cells slots o' L' st' h') : W p l e R s m args below meth c H locs cells slots Q (F0 m pc ls (st.map (g_v G))) := by
  obtain ⟨hx, hb, hr, hml, hown, hts, hlocks, hin, htab, hK, hX, hbase⟩ := M
  simp only [o_ok, Bool.and_eq_true, decide_eq_true_eq] at hok
  obtain ⟨hd, hok⟩ := hok
  obtain ⟨rfl, hn⟩ := p_n hok
  simp only [a_step, a_stI] at hst
  split at hst
  · obtain ⟨hv, rfl, rfl, rfl⟩ := g_sto hst
    obtain ⟨h1, h2, rfl⟩ := g_st1i hv
    refine lv_istore hx hb hd hL.has h1 rfl (fun ls' hl' => ?_)
    have k := kk H locs ls' cells slots hP (g_st1 hl' h2) hS rfl rfl
    rw [hn] at k
    exact k
  · cases hst
theorem s_lstore_n (M : g_M l G sc q p s m args meth c) {z : Fin 4} (hok : o_ok q.2.2.2.2.1 q.2.1 q.2.2.2.1 (decide (q.1.name = "<init>")) cd o (pc, .lstore_n z, len, ps) = true) (hst : a_step sc o (.lstore_n z) ps L st h = some (.inl (o', L', st', h'))) (hP : g_P G h H) (hL : g_L G ls L) (hS : va_S (g_A G) s.heap H locs)
    (kk : g_K p l e R s m args below meth c Q G cd h cells slots o' L' st' h') : W p l e R s m args below meth c H locs cells slots Q (F0 m pc ls (st.map (g_v G))) := by
  obtain ⟨hx, hb, hr, hml, hown, hts, hlocks, hin, htab, hK, hX, hbase⟩ := M
  simp only [o_ok, Bool.and_eq_true, decide_eq_true_eq] at hok
  obtain ⟨hd, hok⟩ := hok
  obtain ⟨rfl, hn⟩ := p_n hok
  simp only [a_step, a_stL] at hst
  split at hst
  · obtain ⟨hv, rfl, rfl, rfl⟩ := g_sto hst
    obtain ⟨h1, h2, rfl⟩ := g_st2i hv
    refine lv_lstore_n hx hb hd rfl hL.has h1 rfl (fun ls' hl' => ?_)
    have k := kk H locs ls' cells slots hP (g_st2 hl' h2) hS rfl rfl
    rw [hn] at k
    exact k
  · cases hst
theorem s_lstore (M : g_M l G sc q p s m args meth c) {z : Nat} (hok : o_ok q.2.2.2.2.1 q.2.1 q.2.2.2.1 (decide (q.1.name = "<init>")) cd o (pc, .lstore z, len, ps) = true) (hst : a_step sc o (.lstore z) ps L st h = some (.inl (o', L', st', h'))) (hP : g_P G h H) (hL : g_L G ls L) (hS : va_S (g_A G) s.heap H locs)
    (kk : g_K p l e R s m args below meth c Q G cd h cells slots o' L' st' h') : W p l e R s m args below meth c H locs cells slots Q (F0 m pc ls (st.map (g_v G))) := by
  obtain ⟨hx, hb, hr, hml, hown, hts, hlocks, hin, htab, hK, hX, hbase⟩ := M
  simp only [o_ok, Bool.and_eq_true, decide_eq_true_eq] at hok
  obtain ⟨hd, hok⟩ := hok
  obtain ⟨rfl, hn⟩ := p_n hok
  simp only [a_step, a_stL] at hst
  split at hst
  · obtain ⟨hv, rfl, rfl, rfl⟩ := g_sto hst
    obtain ⟨h1, h2, rfl⟩ := g_st2i hv
    refine lv_lstore hx hb hd hL.has h1 rfl (fun ls' hl' => ?_)
    have k := kk H locs ls' cells slots hP (g_st2 hl' h2) hS rfl rfl
    rw [hn] at k
    exact k
  · cases hst
theorem s_astore_n (M : g_M l G sc q p s m args meth c) {z : Fin 4} (hok : o_ok q.2.2.2.2.1 q.2.1 q.2.2.2.1 (decide (q.1.name = "<init>")) cd o (pc, .astore_n z, len, ps) = true) (hst : a_step sc o (.astore_n z) ps L st h = some (.inl (o', L', st', h'))) (hP : g_P G h H) (hL : g_L G ls L) (hS : va_S (g_A G) s.heap H locs)
    (kk : g_K p l e R s m args below meth c Q G cd h cells slots o' L' st' h') : W p l e R s m args below meth c H locs cells slots Q (F0 m pc ls (st.map (g_v G))) := by
  obtain ⟨hx, hb, hr, hml, hown, hts, hlocks, hin, htab, hK, hX, hbase⟩ := M
  simp only [o_ok, Bool.and_eq_true, decide_eq_true_eq] at hok
  obtain ⟨hd, hok⟩ := hok
  obtain ⟨rfl, hn⟩ := p_n hok
  simp only [a_step, a_stA] at hst
  split at hst
  · obtain ⟨hv, rfl, rfl, rfl⟩ := g_sto hst
    obtain ⟨h1, h2, rfl⟩ := g_st1i hv
    refine lv_astore_n hx hb hd rfl hL.has h1 rfl (fun ls' hl' => ?_)
    have k := kk H locs ls' cells slots hP (g_st1 hl' h2) hS rfl rfl
    rw [hn] at k
    exact k
  · obtain ⟨hv, rfl, rfl, rfl⟩ := g_sto hst
    obtain ⟨h1, h2, rfl⟩ := g_st1i hv
    refine lv_astore_n hx hb hd rfl hL.has h1 rfl (fun ls' hl' => ?_)
    have k := kk H locs ls' cells slots hP (g_st1 hl' h2) hS rfl rfl
    rw [hn] at k
    exact k
  · cases hst
theorem s_astore (M : g_M l G sc q p s m args meth c) {z : Nat} (hok : o_ok q.2.2.2.2.1 q.2.1 q.2.2.2.1 (decide (q.1.name = "<init>")) cd o (pc, .astore z, len, ps) = true) (hst : a_step sc o (.astore z) ps L st h = some (.inl (o', L', st', h'))) (hP : g_P G h H) (hL : g_L G ls L) (hS : va_S (g_A G) s.heap H locs)
    (kk : g_K p l e R s m args below meth c Q G cd h cells slots o' L' st' h') : W p l e R s m args below meth c H locs cells slots Q (F0 m pc ls (st.map (g_v G))) := by
  obtain ⟨hx, hb, hr, hml, hown, hts, hlocks, hin, htab, hK, hX, hbase⟩ := M
  simp only [o_ok, Bool.and_eq_true, decide_eq_true_eq] at hok
  obtain ⟨hd, hok⟩ := hok
  obtain ⟨rfl, hn⟩ := p_n hok
  simp only [a_step, a_stA] at hst
  split at hst
  · obtain ⟨hv, rfl, rfl, rfl⟩ := g_sto hst
    obtain ⟨h1, h2, rfl⟩ := g_st1i hv
    refine lv_astore hx hb hd hL.has h1 rfl (fun ls' hl' => ?_)
    have k := kk H locs ls' cells slots hP (g_st1 hl' h2) hS rfl rfl
    rw [hn] at k
    exact k
  · obtain ⟨hv, rfl, rfl, rfl⟩ := g_sto hst
    obtain ⟨h1, h2, rfl⟩ := g_st1i hv
    refine lv_astore hx hb hd hL.has h1 rfl (fun ls' hl' => ?_)
    have k := kk H locs ls' cells slots hP (g_st1 hl' h2) hS rfl rfl
    rw [hn] at k
    exact k
  · cases hst
theorem s_iinc (M : g_M l G sc q p s m args meth c) {z : Nat} {w : Int} (hok : o_ok q.2.2.2.2.1 q.2.1 q.2.2.2.1 (decide (q.1.name = "<init>")) cd o (pc, .iinc z w, len, ps) = true) (hst : a_step sc o (.iinc z w) ps L st h = some (.inl (o', L', st', h'))) (hP : g_P G h H) (hL : g_L G ls L) (hS : va_S (g_A G) s.heap H locs)
    (kk : g_K p l e R s m args below meth c Q G cd h cells slots o' L' st' h') : W p l e R s m args below meth c H locs cells slots Q (F0 m pc ls (st.map (g_v G))) := by
  obtain ⟨hx, hb, hr, hml, hown, hts, hlocks, hin, htab, hK, hX, hbase⟩ := M
  simp only [o_ok, Bool.and_eq_true, decide_eq_true_eq] at hok
  obtain ⟨hd, hok⟩ := hok
  obtain ⟨rfl, hn⟩ := p_n hok
  simp only [a_step] at hst
  split at hst
  · rename_i x hw
    obtain ⟨hv, rfl, rfl, rfl⟩ := g_sto hst
    obtain ⟨h1, h2, rfl⟩ := g_st1i hv
    obtain ⟨x', hx', hj⟩ := g_ldI hw
    cases hx'
    obtain ⟨kq, hkq⟩ := List.getElem?_of_mem (g_lv_mem.mpr ⟨_, hj, (fun h => by cases h), rfl⟩ : (z, g_v G (.int x)) ∈ g_lv G L)
    refine lv_iinc hx hb hd hL.has hkq rfl h1 rfl (fun ls' hl' => ?_)
    have k := kk H locs ls' cells slots hP (g_st1 hl' h2) hS rfl rfl
    rw [hn] at k
    exact k
  · cases hst
end
end STEP
