/-! One instruction of the small machine is what the JVM does: branches, constants of the pool, fields, rows -/
section STEP
theorem p_j {off : Int} {cd : List AI} {pc len : Nat} {i : Instr} {ps : List Nat} {t : Nat} (h : o_j off cd (pc, i, len, ps) = true) (hp : ps = [t]) : len = 3 ∧ (pc : Int) + off = (p_pc cd t : Int) := p_pc_j h hp
theorem p_tgs {cd : List AI} {pc : Nat} : ∀ (ts : List Nat) (qs : List Int) (k t : Nat), o_tgs cd pc ts qs = true → ts[k]? = some t → ∃ f, qs[k]? = some f ∧ (pc : Int) + f = (p_pc cd t : Int)
  | [], qs, k, t, _, h => by simp at h
  | x :: ts, [], k, t, ho, h => by simp [o_tgs] at ho
  | x :: ts, f :: qs, 0, t, ho, h => by
    simp only [o_tgs, Bool.and_eq_true] at ho
    simp at h
    subst h
    exact ⟨f, rfl, p_pc_t ho.1⟩
  | x :: ts, f :: qs, k + 1, t, ho, h => by
    simp only [o_tgs, Bool.and_eq_true] at ho
    exact p_tgs ts qs k t ho.2 (by simpa using h)
theorem p_look {cd : List AI} {pc : Nat} {d : Nat} {dd : Int} (hd : (pc : Int) + dd = (p_pc cd d : Int)) {x : Int} : ∀ (ts : List Nat) (prs : List (Int × Int)), o_tgs cd pc ts (prs.map (fun z => z.2)) = true → (pc : Int) + Op.lookupswitch.offset prs dd x = (p_pc cd (a_look x prs ts d) : Int)
  | [], [], _ => by simpa [a_look, Op.lookupswitch.offset] using hd
  | [], y :: prs, ho => by simp [o_tgs] at ho
  | t :: ts, [], ho => by simp [o_tgs] at ho
  | t :: ts, (k, f) :: prs, ho => by
    simp only [List.map_cons, o_tgs, Bool.and_eq_true] at ho
    have ih := p_look hd (x := x) ts prs ho.2
    have h1 := p_pc_t ho.1
    by_cases hk : x = k
    · subst hk
      simp [a_look, Op.lookupswitch.offset, h1]
    · simp [a_look, Op.lookupswitch.offset, hk, Ne.symm hk] at ih ⊢
      exact ih
theorem g_br {b : Bool} {o t o' : Nat} {L st L' st' : List Value} {h h' : AH} (e : a_br b o t L st h = some (.inl (o', L', st', h'))) : (b = true ∧ o' = t ∨ b = false ∧ o' = o + 1) ∧ L' = L ∧ st' = st ∧ h' = h := by
  unfold a_br at e
  split at e
  · obtain ⟨rfl, rfl, rfl, rfl⟩ := g_to e
    exact ⟨Or.inl ⟨rfl, rfl⟩, rfl, rfl, rfl⟩
  · obtain ⟨rfl, rfl, rfl, rfl⟩ := g_go e
    exact ⟨Or.inr ⟨rfl, rfl⟩, rfl, rfl, rfl⟩
section
variable {p : Program} {l : Launch} {e : Env} {R : Room} {s : State} {m : MethodId} {args : Array Value} {below : List Frame} {meth : Method} {c : Code} {H : Heap} {locs : List Loc} {cells slots : Nat} {Q : State → Prop} {G : AG} {sc : Nat × (Nat → Int32)} {q : AM} {cd : List AI} {o pc len : Nat} {i : Instr} {ps : List Nat} {L st : List Value} {h : AH} {o' : Nat} {L' st' : List Value} {h' : AH} {ls : Array Slot}
theorem v_ldcwS {cc : ByteArray} {rest : List Value} (hexec : p.tables.exec = Jvm.exec) (hb : c.code = cc) {own tx : String} {index q : Nat} (hown : s.vm.findClass own = some m.cls) (hZ : vk_R own index tx q s) (hdg : decode cc pc = .ok (.ldc_w index, 3))
    (k : W p l e R s m args below meth c H locs cells slots Q (F0 m (pc + 3) ls (.ref q :: rest))) : W p l e R s m args below meth c H locs cells slots Q (F0 m pc ls rest) := by
  intro T hT X
  obtain ⟨t, a1, b1⟩ := k T hT X
  exact ⟨t, X.ldcStringW hexec hown (text := tx) (a := q) hZ.1 hZ.2 (g := F0 m pc ls rest) rfl (by rw [hb]; exact hdg) t a1, b1⟩
theorem s_goto (M : g_M l G sc q p s m args meth c) {z : Int} (hok : o_ok q.2.2.2.2.1 q.2.1 q.2.2.2.1 (decide (q.1.name = "<init>")) cd o (pc, .goto z, len, ps) = true) (hst : a_step sc o (.goto z) ps L st h = some (.inl (o', L', st', h'))) (hP : g_P G h H) (hL : g_L G ls L) (hS : va_S (g_A G) s.heap H locs)
    (kk : g_K p l e R s m args below meth c Q G cd h cells slots o' L' st' h') : W p l e R s m args below meth c H locs cells slots Q (F0 m pc ls (st.map (g_v G))) := by
  obtain ⟨hx, hb, hr, hml, hown, hts, hlocks, hin, htab, hK, hX, hbase⟩ := M
  simp only [o_ok, Bool.and_eq_true, decide_eq_true_eq] at hok
  obtain ⟨hd, hok⟩ := hok
  simp only [a_step] at hst
  split at hst
  · rename_i t
    obtain ⟨rfl, ht⟩ := p_j hok rfl
    obtain ⟨rfl, rfl, rfl, rfl⟩ := g_to hst
    exact lv_goto hx hb hd ht (kk H locs ls cells slots hP hL hS rfl rfl)
  · cases hst
theorem s_ifCond (M : g_M l G sc q p s m args meth c) {cn : ClassFile.Cond} {z : Int} (hok : o_ok q.2.2.2.2.1 q.2.1 q.2.2.2.1 (decide (q.1.name = "<init>")) cd o (pc, .ifCond cn z, len, ps) = true) (hst : a_step sc o (.ifCond cn z) ps L st h = some (.inl (o', L', st', h'))) (hP : g_P G h H) (hL : g_L G ls L) (hS : va_S (g_A G) s.heap H locs)
    (kk : g_K p l e R s m args below meth c Q G cd h cells slots o' L' st' h') : W p l e R s m args below meth c H locs cells slots Q (F0 m pc ls (st.map (g_v G))) := by
  obtain ⟨hx, hb, hr, hml, hown, hts, hlocks, hin, htab, hK, hX, hbase⟩ := M
  simp only [o_ok, Bool.and_eq_true, decide_eq_true_eq] at hok
  obtain ⟨hd, hok1, hok2⟩ := hok
  simp only [a_step] at hst
  split at hst
  · rename_i t x r
    obtain ⟨rfl, ht⟩ := p_j hok1 rfl
    obtain ⟨-, hn⟩ := p_n hok2
    obtain ⟨hb2, rfl, rfl, rfl⟩ := g_br hst
    cases cn with
    | eq =>
      simp only [a_c1, decide_eq_true_eq, decide_eq_false_iff_not] at hb2
      rcases hb2 with ⟨hc, rfl⟩ | ⟨hc, rfl⟩
      · exact lv_if_eq hx hb hd ht (fun _ => kk H locs ls cells slots hP hL hS rfl rfl) (fun hc' => absurd hc hc')
      · have k := kk H locs ls cells slots hP hL hS rfl rfl
        rw [hn] at k
        exact lv_if_eq hx hb hd ht (fun hc' => absurd hc' hc) (fun _ => k)
    | ne =>
      simp only [a_c1, decide_eq_true_eq, decide_eq_false_iff_not] at hb2
      rcases hb2 with ⟨hc, rfl⟩ | ⟨hc, rfl⟩
      · exact lv_if_ne hx hb hd ht (fun _ => kk H locs ls cells slots hP hL hS rfl rfl) (fun hc' => absurd hc' hc)
      · have k := kk H locs ls cells slots hP hL hS rfl rfl
        rw [hn] at k
        exact lv_if_ne hx hb hd ht (fun hc' => absurd hc' hc) (fun _ => k)
    | lt =>
      simp only [a_c1, decide_eq_true_eq, decide_eq_false_iff_not] at hb2
      rcases hb2 with ⟨hc, rfl⟩ | ⟨hc, rfl⟩
      · exact lv_if_lt hx hb hd ht (fun _ => kk H locs ls cells slots hP hL hS rfl rfl) (fun hc' => absurd hc hc')
      · have k := kk H locs ls cells slots hP hL hS rfl rfl
        rw [hn] at k
        exact lv_if_lt hx hb hd ht (fun hc' => absurd hc' hc) (fun _ => k)
    | ge =>
      simp only [a_c1, decide_eq_true_eq, decide_eq_false_iff_not] at hb2
      rcases hb2 with ⟨hc, rfl⟩ | ⟨hc, rfl⟩
      · exact lv_if_ge hx hb hd ht (fun _ => kk H locs ls cells slots hP hL hS rfl rfl) (fun hc' => absurd hc hc')
      · have k := kk H locs ls cells slots hP hL hS rfl rfl
        rw [hn] at k
        exact lv_if_ge hx hb hd ht (fun hc' => absurd hc' hc) (fun _ => k)
    | gt =>
      simp only [a_c1, decide_eq_true_eq, decide_eq_false_iff_not] at hb2
      rcases hb2 with ⟨hc, rfl⟩ | ⟨hc, rfl⟩
      · exact lv_if_gt hx hb hd ht (fun _ => kk H locs ls cells slots hP hL hS rfl rfl) (fun hc' => absurd hc hc')
      · have k := kk H locs ls cells slots hP hL hS rfl rfl
        rw [hn] at k
        exact lv_if_gt hx hb hd ht (fun hc' => absurd hc' hc) (fun _ => k)
    | le =>
      simp only [a_c1, decide_eq_true_eq, decide_eq_false_iff_not] at hb2
      rcases hb2 with ⟨hc, rfl⟩ | ⟨hc, rfl⟩
      · exact lv_if_le hx hb hd ht (fun _ => kk H locs ls cells slots hP hL hS rfl rfl) (fun hc' => absurd hc hc')
      · have k := kk H locs ls cells slots hP hL hS rfl rfl
        rw [hn] at k
        exact lv_if_le hx hb hd ht (fun hc' => absurd hc' hc) (fun _ => k)
  · cases hst
theorem s_icmp (M : g_M l G sc q p s m args meth c) {cn : ClassFile.Cond} {z : Int} (hok : o_ok q.2.2.2.2.1 q.2.1 q.2.2.2.1 (decide (q.1.name = "<init>")) cd o (pc, .if_icmp cn z, len, ps) = true) (hst : a_step sc o (.if_icmp cn z) ps L st h = some (.inl (o', L', st', h'))) (hP : g_P G h H) (hL : g_L G ls L) (hS : va_S (g_A G) s.heap H locs)
    (kk : g_K p l e R s m args below meth c Q G cd h cells slots o' L' st' h') : W p l e R s m args below meth c H locs cells slots Q (F0 m pc ls (st.map (g_v G))) := by
  obtain ⟨hx, hb, hr, hml, hown, hts, hlocks, hin, htab, hK, hX, hbase⟩ := M
  simp only [o_ok, Bool.and_eq_true, decide_eq_true_eq] at hok
  obtain ⟨hd, hok1, hok2⟩ := hok
  simp only [a_step] at hst
  split at hst
  · rename_i t y x r
    obtain ⟨rfl, ht⟩ := p_j hok1 rfl
    obtain ⟨-, hn⟩ := p_n hok2
    obtain ⟨hb2, rfl, rfl, rfl⟩ := g_br hst
    cases cn with
    | eq =>
      simp only [a_c2, decide_eq_true_eq, decide_eq_false_iff_not] at hb2
      rcases hb2 with ⟨hc, rfl⟩ | ⟨hc, rfl⟩
      · exact lv_icmp_eq hx hb hd ht (fun _ => kk H locs ls cells slots hP hL hS rfl rfl) (fun hc' => absurd hc hc')
      · have k := kk H locs ls cells slots hP hL hS rfl rfl
        rw [hn] at k
        exact lv_icmp_eq hx hb hd ht (fun hc' => absurd hc' hc) (fun _ => k)
    | ne =>
      simp only [a_c2, decide_eq_true_eq, decide_eq_false_iff_not] at hb2
      rcases hb2 with ⟨hc, rfl⟩ | ⟨hc, rfl⟩
      · exact lv_icmp_ne hx hb hd ht (fun _ => kk H locs ls cells slots hP hL hS rfl rfl) (fun hc' => absurd hc' hc)
      · have k := kk H locs ls cells slots hP hL hS rfl rfl
        rw [hn] at k
        exact lv_icmp_ne hx hb hd ht (fun hc' => absurd hc' hc) (fun _ => k)
    | lt =>
      simp only [a_c2, decide_eq_true_eq, decide_eq_false_iff_not] at hb2
      rcases hb2 with ⟨hc, rfl⟩ | ⟨hc, rfl⟩
      · exact lv_icmp_lt hx hb hd ht (fun _ => kk H locs ls cells slots hP hL hS rfl rfl) (fun hc' => absurd hc hc')
      · have k := kk H locs ls cells slots hP hL hS rfl rfl
        rw [hn] at k
        exact lv_icmp_lt hx hb hd ht (fun hc' => absurd hc' hc) (fun _ => k)
    | ge =>
      simp only [a_c2, decide_eq_true_eq, decide_eq_false_iff_not] at hb2
      rcases hb2 with ⟨hc, rfl⟩ | ⟨hc, rfl⟩
      · exact lv_icmp_ge hx hb hd ht (fun _ => kk H locs ls cells slots hP hL hS rfl rfl) (fun hc' => absurd hc hc')
      · have k := kk H locs ls cells slots hP hL hS rfl rfl
        rw [hn] at k
        exact lv_icmp_ge hx hb hd ht (fun hc' => absurd hc' hc) (fun _ => k)
    | gt =>
      simp only [a_c2, decide_eq_true_eq, decide_eq_false_iff_not] at hb2
      rcases hb2 with ⟨hc, rfl⟩ | ⟨hc, rfl⟩
      · exact lv_icmp_gt hx hb hd ht (fun _ => kk H locs ls cells slots hP hL hS rfl rfl) (fun hc' => absurd hc hc')
      · have k := kk H locs ls cells slots hP hL hS rfl rfl
        rw [hn] at k
        exact lv_icmp_gt hx hb hd ht (fun hc' => absurd hc' hc) (fun _ => k)
    | le =>
      simp only [a_c2, decide_eq_true_eq, decide_eq_false_iff_not] at hb2
      rcases hb2 with ⟨hc, rfl⟩ | ⟨hc, rfl⟩
      · exact lv_icmp_le hx hb hd ht (fun _ => kk H locs ls cells slots hP hL hS rfl rfl) (fun hc' => absurd hc hc')
      · have k := kk H locs ls cells slots hP hL hS rfl rfl
        rw [hn] at k
        exact lv_icmp_le hx hb hd ht (fun hc' => absurd hc' hc) (fun _ => k)
  · cases hst
theorem s_ifnull (M : g_M l G sc q p s m args meth c) {z : Int} (hok : o_ok q.2.2.2.2.1 q.2.1 q.2.2.2.1 (decide (q.1.name = "<init>")) cd o (pc, .ifnull z, len, ps) = true) (hst : a_step sc o (.ifnull z) ps L st h = some (.inl (o', L', st', h'))) (hP : g_P G h H) (hL : g_L G ls L) (hS : va_S (g_A G) s.heap H locs)
    (kk : g_K p l e R s m args below meth c Q G cd h cells slots o' L' st' h') : W p l e R s m args below meth c H locs cells slots Q (F0 m pc ls (st.map (g_v G))) := by
  obtain ⟨hx, hb, hr, hml, hown, hts, hlocks, hin, htab, hK, hX, hbase⟩ := M
  simp only [o_ok, Bool.and_eq_true, decide_eq_true_eq] at hok
  obtain ⟨hd, hok1, hok2⟩ := hok
  simp only [a_step] at hst
  split at hst
  · obtain ⟨rfl, ht⟩ := p_j hok1 rfl
    obtain ⟨rfl, rfl, rfl, rfl⟩ := g_to hst
    exact lv_ifnullN hx hb hd ht (kk H locs ls cells slots hP hL hS rfl rfl)
  · obtain ⟨rfl, ht⟩ := p_j hok1 rfl
    obtain ⟨-, hn⟩ := p_n hok2
    obtain ⟨rfl, rfl, rfl, rfl⟩ := g_go hst
    have k := kk H locs ls cells slots hP hL hS rfl rfl
    rw [hn] at k
    exact lv_ifnull hx hb hd k
  · cases hst
theorem s_ifnonnull (M : g_M l G sc q p s m args meth c) {z : Int} (hok : o_ok q.2.2.2.2.1 q.2.1 q.2.2.2.1 (decide (q.1.name = "<init>")) cd o (pc, .ifnonnull z, len, ps) = true) (hst : a_step sc o (.ifnonnull z) ps L st h = some (.inl (o', L', st', h'))) (hP : g_P G h H) (hL : g_L G ls L) (hS : va_S (g_A G) s.heap H locs)
    (kk : g_K p l e R s m args below meth c Q G cd h cells slots o' L' st' h') : W p l e R s m args below meth c H locs cells slots Q (F0 m pc ls (st.map (g_v G))) := by
  obtain ⟨hx, hb, hr, hml, hown, hts, hlocks, hin, htab, hK, hX, hbase⟩ := M
  simp only [o_ok, Bool.and_eq_true, decide_eq_true_eq] at hok
  obtain ⟨hd, hok1, hok2⟩ := hok
  simp only [a_step] at hst
  split at hst
  · obtain ⟨rfl, ht⟩ := p_j hok1 rfl
    obtain ⟨-, hn⟩ := p_n hok2
    obtain ⟨rfl, rfl, rfl, rfl⟩ := g_go hst
    have k := kk H locs ls cells slots hP hL hS rfl rfl
    rw [hn] at k
    exact lv_ifnonnullN hx hb hd k
  · obtain ⟨rfl, ht⟩ := p_j hok1 rfl
    obtain ⟨rfl, rfl, rfl, rfl⟩ := g_to hst
    exact lv_ifnonnull hx hb hd ht (kk H locs ls cells slots hP hL hS rfl rfl)
  · cases hst
theorem s_tableswitch (M : g_M l G sc q p s m args meth c) {dd lo hi : Int} {offs : Array Int} (hok : o_ok q.2.2.2.2.1 q.2.1 q.2.2.2.1 (decide (q.1.name = "<init>")) cd o (pc, .tableswitch dd lo hi offs, len, ps) = true) (hst : a_step sc o (.tableswitch dd lo hi offs) ps L st h = some (.inl (o', L', st', h'))) (hP : g_P G h H) (hL : g_L G ls L) (hS : va_S (g_A G) s.heap H locs)
    (kk : g_K p l e R s m args below meth c Q G cd h cells slots o' L' st' h') : W p l e R s m args below meth c H locs cells slots Q (F0 m pc ls (st.map (g_v G))) := by
  obtain ⟨hx, hb, hr, hml, hown, hts, hlocks, hin, htab, hK, hX, hbase⟩ := M
  simp only [o_ok, Bool.and_eq_true, decide_eq_true_eq] at hok
  obtain ⟨hd, hok⟩ := hok
  simp only [a_step] at hst
  split at hst
  · rename_i d ts x r
    simp only [Bool.and_eq_true] at hok
    split at hst
    · rename_i hc
      obtain ⟨rfl, rfl, rfl, rfl⟩ := g_to hst
      exact lv_tableOut hx hb hd hc (p_pc_t hok.1) (kk H locs ls cells slots hP hL hS rfl rfl)
    · rename_i hc
      split at hst
      · rename_i t ht
        obtain ⟨rfl, rfl, rfl, rfl⟩ := g_to hst
        obtain ⟨f, hf, hq⟩ := p_tgs _ _ _ _ hok.2 ht
        rw [Array.getElem?_toList] at hf
        exact lv_tableIn hx hb hd (fun z => hc (Or.inl z)) (fun z => hc (Or.inr z)) hf hq (kk H locs ls cells slots hP hL hS rfl rfl)
      · cases hst
  · cases hst
theorem s_lookupswitch (M : g_M l G sc q p s m args meth c) {dd : Int} {prs : Array (Int × Int)} (hok : o_ok q.2.2.2.2.1 q.2.1 q.2.2.2.1 (decide (q.1.name = "<init>")) cd o (pc, .lookupswitch dd prs, len, ps) = true) (hst : a_step sc o (.lookupswitch dd prs) ps L st h = some (.inl (o', L', st', h'))) (hP : g_P G h H) (hL : g_L G ls L) (hS : va_S (g_A G) s.heap H locs)
    (kk : g_K p l e R s m args below meth c Q G cd h cells slots o' L' st' h') : W p l e R s m args below meth c H locs cells slots Q (F0 m pc ls (st.map (g_v G))) := by
  obtain ⟨hx, hb, hr, hml, hown, hts, hlocks, hin, htab, hK, hX, hbase⟩ := M
  simp only [o_ok, Bool.and_eq_true, decide_eq_true_eq] at hok
  obtain ⟨hd, hok⟩ := hok
  simp only [a_step] at hst
  split at hst
  · rename_i d ts x r
    simp only [Bool.and_eq_true] at hok
    obtain ⟨rfl, rfl, rfl, rfl⟩ := g_to hst
    exact lv_lookup hx hb hd hok.2 rfl (p_look (p_pc_t hok.1.1) ts prs.toList hok.1.2) (kk H locs ls cells slots hP hL hS rfl rfl)
  · cases hst
theorem s_ldc (M : g_M l G sc q p s m args meth c) {z : Nat} (hok : o_ok q.2.2.2.2.1 q.2.1 q.2.2.2.1 (decide (q.1.name = "<init>")) cd o (pc, .ldc z, len, ps) = true) (hst : a_step sc o (.ldc z) ps L st h = some (.inl (o', L', st', h'))) (hP : g_P G h H) (hL : g_L G ls L) (hS : va_S (g_A G) s.heap H locs)
    (kk : g_K p l e R s m args below meth c Q G cd h cells slots o' L' st' h') : W p l e R s m args below meth c H locs cells slots Q (F0 m pc ls (st.map (g_v G))) := by
  obtain ⟨hx, hb, hr, hml, hown, hts, hlocks, hin, htab, hK, hX, hbase⟩ := M
  simp only [o_ok, Bool.and_eq_true, decide_eq_true_eq] at hok
  obtain ⟨hd, hok1, hok2⟩ := hok
  obtain ⟨rfl, hn⟩ := p_n hok1
  simp only [a_step] at hst
  split at hst
  · obtain ⟨rfl, rfl, rfl, rfl⟩ := g_go hst
    have k := kk H locs ls cells slots hP hL hS rfl rfl
    rw [hn] at k
    exact lv_ldc hx hb hown (hts _ (o_w_in hok2)) hd k
  · rename_i si
    obtain ⟨rfl, rfl, rfl, rfl⟩ := g_go hst
    have k := kk H locs ls cells slots hP hL hS rfl rfl
    rw [hn] at k
    simp only at hok2
    split at hok2
    · rename_i t ht
      simp only [Bool.and_eq_true, decide_eq_true_eq] at hok2
      obtain ⟨⟨e1, e2⟩, e3⟩ := hok2
      obtain ⟨av, hR, -⟩ := hX.1 si e3
      rw [List.getD_eq_getElem?_getD, ht] at hR
      simp only [Option.getD_some, e1, e2] at hR
      have e4 : (UInt32.ofNat si).toNat = si := by
        rw [UInt32.toNat_ofNat']
        exact Nat.mod_eq_of_lt (by omega)
      have k2 : g_v G (.float (UInt32.ofNat si)) = .ref (G.2.1 si) := by
        show Value.ref (G.2.1 (UInt32.ofNat si).toNat) = _
        rw [e4]
      rw [List.map_cons, k2] at k
      exact va_ldcS hx hb hown hR hd k
    · cases hok2
  · cases hst
theorem s_ldcw (M : g_M l G sc q p s m args meth c) {z : Nat} (hok : o_ok q.2.2.2.2.1 q.2.1 q.2.2.2.1 (decide (q.1.name = "<init>")) cd o (pc, .ldc_w z, len, ps) = true) (hst : a_step sc o (.ldc_w z) ps L st h = some (.inl (o', L', st', h'))) (hP : g_P G h H) (hL : g_L G ls L) (hS : va_S (g_A G) s.heap H locs)
    (kk : g_K p l e R s m args below meth c Q G cd h cells slots o' L' st' h') : W p l e R s m args below meth c H locs cells slots Q (F0 m pc ls (st.map (g_v G))) := by
  obtain ⟨hx, hb, hr, hml, hown, hts, hlocks, hin, htab, hK, hX, hbase⟩ := M
  simp only [o_ok, Bool.and_eq_true, decide_eq_true_eq] at hok
  obtain ⟨hd, hok1, hok2⟩ := hok
  obtain ⟨rfl, hn⟩ := p_n hok1
  simp only [a_step] at hst
  split at hst
  · obtain ⟨rfl, rfl, rfl, rfl⟩ := g_go hst
    have k := kk H locs ls cells slots hP hL hS rfl rfl
    rw [hn] at k
    exact lv_ldcw hx hb hown (hts _ (o_w_in hok2)) hd k
  · rename_i si
    obtain ⟨rfl, rfl, rfl, rfl⟩ := g_go hst
    have k := kk H locs ls cells slots hP hL hS rfl rfl
    rw [hn] at k
    simp only at hok2
    split at hok2
    · rename_i t ht
      simp only [Bool.and_eq_true, decide_eq_true_eq] at hok2
      obtain ⟨⟨e1, e2⟩, e3⟩ := hok2
      obtain ⟨av, hR, -⟩ := hX.1 si e3
      rw [List.getD_eq_getElem?_getD, ht] at hR
      simp only [Option.getD_some, e1, e2] at hR
      have e4 : (UInt32.ofNat si).toNat = si := by
        rw [UInt32.toNat_ofNat']
        exact Nat.mod_eq_of_lt (by omega)
      have k2 : g_v G (.float (UInt32.ofNat si)) = .ref (G.2.1 si) := by
        show Value.ref (G.2.1 (UInt32.ofNat si).toNat) = _
        rw [e4]
      rw [List.map_cons, k2] at k
      exact v_ldcwS hx hb hown hR hd k
    · cases hok2
  · cases hst
theorem s_ldc2 (M : g_M l G sc q p s m args meth c) {z : Nat} (hok : o_ok q.2.2.2.2.1 q.2.1 q.2.2.2.1 (decide (q.1.name = "<init>")) cd o (pc, .ldc2_w z, len, ps) = true) (hst : a_step sc o (.ldc2_w z) ps L st h = some (.inl (o', L', st', h'))) (hP : g_P G h H) (hL : g_L G ls L) (hS : va_S (g_A G) s.heap H locs)
    (kk : g_K p l e R s m args below meth c Q G cd h cells slots o' L' st' h') : W p l e R s m args below meth c H locs cells slots Q (F0 m pc ls (st.map (g_v G))) := by
  obtain ⟨hx, hb, hr, hml, hown, hts, hlocks, hin, htab, hK, hX, hbase⟩ := M
  simp only [o_ok, Bool.and_eq_true, decide_eq_true_eq] at hok
  obtain ⟨hd, hok1, hok2⟩ := hok
  obtain ⟨rfl, hn⟩ := p_n hok1
  simp only [a_step] at hst
  split at hst
  · obtain ⟨rfl, rfl, rfl, rfl⟩ := g_go hst
    have k := kk H locs ls cells slots hP hL hS rfl rfl
    rw [hn] at k
    exact lv_ldc2 hx hb hown (hts _ (o_w_in hok2)) hd k
  · cases hst
end
end STEP
