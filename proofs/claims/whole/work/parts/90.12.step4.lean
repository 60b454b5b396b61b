/-! One instruction of the small machine is what the JVM does: rows of towns, new cells, the library's methods -/
section STEP
theorem g_wsome : ([.initialized "java/lang/System", .native arraycopyName, .static arraycopyName, .initialized "java/lang/Math", .static Lib.Math.min.name, .static Lib.Math.max.name, .static Lib.Math.abs.name, .static Lib.MathLoose.min_long.x, .code Lib.Math.min.name Lib.Math.min.code 2 (some .int), .code Lib.Math.max.name Lib.Math.max.code 2 (some .int), .code Lib.Math.abs.name Lib.Math.abs.code 1 (some .int), .code Lib.MathLoose.min_long.x Lib.MathLoose.min_long.code 4 (some .long), .instanceMethod objectInit, .code objectInit ⟨#[0xb1]⟩ 1 none] : List Cond).all (fun w => decide (w ∈ lw_tbl) && goodWord w) = true := by decide +kernel
theorem g_ws1 {w : Cond} (h : w ∈ ([.initialized "java/lang/System", .native arraycopyName, .static arraycopyName, .initialized "java/lang/Math", .static Lib.Math.min.name, .static Lib.Math.max.name, .static Lib.Math.abs.name, .static Lib.MathLoose.min_long.x, .code Lib.Math.min.name Lib.Math.min.code 2 (some .int), .code Lib.Math.max.name Lib.Math.max.code 2 (some .int), .code Lib.Math.abs.name Lib.Math.abs.code 1 (some .int), .code Lib.MathLoose.min_long.x Lib.MathLoose.min_long.code 4 (some .long), .instanceMethod objectInit, .code objectInit ⟨#[0xb1]⟩ 1 none] : List Cond)) : w ∈ a_Ts := by
  have h2 := List.all_eq_true.mp g_wsome w h
  simp only [Bool.and_eq_true, decide_eq_true_eq] at h2
  exact List.mem_filter.mpr h2
theorem g_is {h : AH} {r ci : Nat} (e : a_is h r ci = true) : ∃ fs, h[r]? = some (.inr (ci, fs)) := by
  unfold a_is at e
  split at e
  · rename_i c fs hc
    rw [of_decide_eq_true e] at hc
    exact ⟨fs, hc⟩
  · cases e
theorem g_up (G : AG) (f : Nat → Option Nat) (j : Nat) (v : Option Nat) : (fun k => (va_up f j v k).map (fun z => G.1 + z)) = va_up (fun k => (f k).map (fun z => G.1 + z)) j (v.map (fun z => G.1 + z)) := by
  funext k
  unfold va_up
  split <;> rfl
theorem g_nf (ty : FieldType) (h : ty = .int ∨ ty = .long ∨ ty = .boolean ∨ ty.isReference = true) (G : AG) : g_v G (defaultValue ty) = defaultValue ty := by
  rcases h with rfl | rfl | rfl | h
  · rfl
  · rfl
  · rfl
  · cases ty <;> first | rfl | cases h
theorem g_tys_all : ∀ ci, ci < 13 → ∀ j, j < 77 → (a_ty ci j = .int ∨ a_ty ci j = .long ∨ a_ty ci j = .boolean ∨ (a_ty ci j).isReference = true) := by decide +kernel
theorem g_N_all : ∀ ci, ci < 13 → ∀ r, a_cl[ci]? = some r → 0 < r.2.2 ∧ r.2.2 ≤ 77 := by
  intro ci h1 r h2
  match ci, h1, h2 with
  | 0, _, h => cases h; decide
  | 1, _, h => cases h; decide
  | 2, _, h => cases h; decide
  | 3, _, h => cases h; decide
  | 4, _, h => cases h; decide
  | 5, _, h => cases h; decide
  | 6, _, h => cases h; decide
  | 7, _, h => cases h; decide
  | 8, _, h => cases h; decide
  | 9, _, h => cases h; decide
  | 10, _, h => cases h; decide
  | 11, _, h => cases h; decide
  | 12, _, h => cases h; decide
  | ci + 13, h1, _ => omega
section
variable {p : Program} {l : Launch} {e : Env} {R : Room} {s : State} {m : MethodId} {args : Array Value} {below : List Frame} {meth : Method} {c : Code} {H : Heap} {locs : List Loc} {cells slots : Nat} {Q : State → Prop} {G : AG} {sc : Nat × (Nat → Int32)} {q : AM} {cd : List AI} {o pc len : Nat} {i : Instr} {ps : List Nat} {L st : List Value} {h : AH} {o' : Nat} {L' st' : List Value} {h' : AH} {ls : Array Slot}
theorem s_aastore (M : g_M l G sc q p s m args meth c) (hok : o_ok q.2.2.2.2.1 q.2.1 q.2.2.2.1 (decide (q.1.name = "<init>")) cd o (pc, .aastore, len, ps) = true) (hst : a_step sc o (.aastore) ps L st h = some (.inl (o', L', st', h'))) (hP : g_P G h H) (hL : g_L G ls L) (hS : va_S (g_A G) s.heap H locs)
    (kk : g_K p l e R s m args below meth c Q G cd h cells slots o' L' st' h') : W p l e R s m args below meth c H locs cells slots Q (F0 m pc ls (st.map (g_v G))) := by
  obtain ⟨hx, hb, hr, hml, hown, hts, hlocks, hin, htab, hK, hX, hbase⟩ := M
  simp only [o_ok, Bool.and_eq_true, decide_eq_true_eq] at hok
  obtain ⟨hd, hok⟩ := hok
  obtain ⟨rfl, hn⟩ := p_n hok
  simp only [a_step, a_aast] at hst
  split at hst
  · rename_i t ix r rest
    split at hst
    · rename_i n9 f9 hcell
      split at hst
      · rename_i hc9
        obtain ⟨hi, his⟩ := hc9
        obtain ⟨fs, hfs⟩ := g_is his
        obtain ⟨rfl, rfl, rfl, rfl⟩ := g_go hst
        refine va_astq (r := (RX9, TX9, 11)) hx hb hK hP (g_D G h) hS r 2 t 9 (g_at G hcell) rfl (g_at G hfs) rfl (a_in_iff.mp hi) hd (fun H1 locs1 hP1 hD1 hS1 => ?_)
        have hP1' : g_P G (h.set r (.inl (2, n9, .inr (.inr (.inr (.inr (va_up f9 ix.toNatClampNeg (some t)))))))) H1 := by
          unfold g_P
          rw [g_ws_set]
          simp only [g_c, g_a, Nat.zero_add, g_up]
          exact hP1
        have k := kk H1 locs1 ls cells slots hP1' hL hS1 (by rw [List.length_set]) (congrArg (fun z => slots + z) (a_hsz_set (.inl (2, n9, .inr (.inr (.inr (.inr f9))))) (.inl (2, n9, .inr (.inr (.inr (.inr (va_up f9 ix.toNatClampNeg (some t))))))) rfl h r hcell).symm)
        rw [hn] at k
        exact k
      · cases hst
    · cases hst
  · rename_i ix r rest
    split at hst
    · rename_i n9 f9 hcell
      split at hst
      · rename_i hi
        obtain ⟨rfl, rfl, rfl, rfl⟩ := g_go hst
        refine va_astqN (C := RX9) hx hb hK hP (g_D G h) hS r 2 (g_at G hcell) rfl (a_in_iff.mp hi) hd (fun H1 locs1 hP1 hD1 hS1 => ?_)
        have hP1' : g_P G (h.set r (.inl (2, n9, .inr (.inr (.inr (.inr (va_up f9 ix.toNatClampNeg none))))))) H1 := by
          unfold g_P
          rw [g_ws_set]
          simp only [g_c, g_a, Nat.zero_add, g_up]
          exact hP1
        have k := kk H1 locs1 ls cells slots hP1' hL hS1 (by rw [List.length_set]) (congrArg (fun z => slots + z) (a_hsz_set (.inl (2, n9, .inr (.inr (.inr (.inr f9))))) (.inl (2, n9, .inr (.inr (.inr (.inr (va_up f9 ix.toNatClampNeg none)))))) rfl h r hcell).symm)
        rw [hn] at k
        exact k
      · cases hst
    · cases hst
  · cases hst
theorem s_newarray (M : g_M l G sc q p s m args meth c) {t : ArrayType} (hok : o_ok q.2.2.2.2.1 q.2.1 q.2.2.2.1 (decide (q.1.name = "<init>")) cd o (pc, .newarray t, len, ps) = true) (hst : a_step sc o (.newarray t) ps L st h = some (.inl (o', L', st', h'))) (hP : g_P G h H) (hL : g_L G ls L) (hS : va_S (g_A G) s.heap H locs) (hsz : s.heap.size + cells = G.1 + h.length) (hRc : cells + h'.length ≤ R.cells + h.length) (hRs : slots + a_hsz h' ≤ R.slots + a_hsz h)
    (kk : g_K p l e R s m args below meth c Q G cd h cells slots o' L' st' h') : W p l e R s m args below meth c H locs cells slots Q (F0 m pc ls (st.map (g_v G))) := by
  obtain ⟨hx, hb, hr, hml, hown, hts, hlocks, hin, htab, hK, hX, hbase⟩ := M
  simp only [o_ok, Bool.and_eq_true, decide_eq_true_eq] at hok
  obtain ⟨hd, hok1, hok2⟩ := hok
  obtain ⟨rfl, hn⟩ := p_n hok1
  simp only [a_step] at hst
  split at hst
  · rename_i k9 j9
    simp only [a_newa] at hst
    split at hst
    · rename_i n9 rest
      split at hst
      · cases hst
      · rename_i hc9
        split at hst
        · obtain ⟨rfl, rfl, rfl, rfl⟩ := g_go hst
          simp only [Bool.and_eq_true, decide_eq_true_eq] at hok2
          obtain ⟨rfl, hw⟩ := hok2
          rw [List.length_append] at hRc
          rw [a_hsz_app] at hRs
          refine va_newa (ty := .int) (a0 := (n9.toNatClampNeg, .inl (fun _ => 0))) hx hb (hts _ (o_w_in hw)) rfl hK hP (g_D G h) hS (fun z hz => Nat.le_trans hbase hz) (fun cA => rfl) (fun z => hc9 (Or.inl z)) rfl (by have := Nat.not_lt.mp (fun z => hc9 (Or.inr z)); simp only [componentBytes]; omega) (by simp at hRc; omega) (by simp [a_sz] at hRs; omega) hd (fun x cA H1 hK1 hP1 hD1 hS1 => ?_)
          refine w_size (fun hz => ?_)
          obtain rfl := g_fresh hP1 hD1 (by omega)
          have hcA : cA = G.2.2.2 0 := by
            have e1 := (hK1.2 3 _ rfl).2
            have e2 := (hK1.2 0 _ rfl).2
            exact Option.some.inj (e1.symm.trans e2)
          subst hcA
          have hP1' : g_P G (h ++ [.inl (0, n9.toNatClampNeg, .inl (fun _ => 0))]) H1 := by
            unfold g_P
            rw [g_ws_app, Nat.zero_add]
            exact hP1
          have k := kk H1 locs ls (cells + 1) (slots + n9.toNatClampNeg) hP1' hL hS1 (by rw [List.length_append]; simp; omega) (by rw [a_hsz_app]; simp [a_sz]; omega)
          rw [hn] at k
          exact k
        · obtain ⟨rfl, rfl, rfl, rfl⟩ := g_go hst
          simp only [Bool.and_eq_true, decide_eq_true_eq] at hok2
          obtain ⟨rfl, hw⟩ := hok2
          rw [List.length_append] at hRc
          rw [a_hsz_app] at hRs
          refine va_newa (ty := .long) (a0 := (n9.toNatClampNeg, .inr (.inl (fun _ => 0)))) hx hb (hts _ (o_w_in hw)) rfl hK hP (g_D G h) hS (fun z hz => Nat.le_trans hbase hz) (fun cA => rfl) (fun z => hc9 (Or.inl z)) rfl (by have := Nat.not_lt.mp (fun z => hc9 (Or.inr z)); simp only [componentBytes]; omega) (by simp at hRc; omega) (by simp [a_sz] at hRs; omega) hd (fun x cA H1 hK1 hP1 hD1 hS1 => ?_)
          refine w_size (fun hz => ?_)
          obtain rfl := g_fresh hP1 hD1 (by omega)
          have hcA : cA = G.2.2.2 1 := by
            have e1 := (hK1.2 3 _ rfl).2
            have e2 := (hK1.2 1 _ rfl).2
            exact Option.some.inj (e1.symm.trans e2)
          subst hcA
          have hP1' : g_P G (h ++ [.inl (1, n9.toNatClampNeg, .inr (.inl (fun _ => 0)))]) H1 := by
            unfold g_P
            rw [g_ws_app, Nat.zero_add]
            exact hP1
          have k := kk H1 locs ls (cells + 1) (slots + n9.toNatClampNeg) hP1' hL hS1 (by rw [List.length_append]; simp; omega) (by rw [a_hsz_app]; simp [a_sz]; omega)
          rw [hn] at k
          exact k
        · simp at hok2
        · cases hst
    · cases hst
  · cases hst
theorem s_anewarray (M : g_M l G sc q p s m args meth c) {z : Nat} (hok : o_ok q.2.2.2.2.1 q.2.1 q.2.2.2.1 (decide (q.1.name = "<init>")) cd o (pc, .anewarray z, len, ps) = true) (hst : a_step sc o (.anewarray z) ps L st h = some (.inl (o', L', st', h'))) (hP : g_P G h H) (hL : g_L G ls L) (hS : va_S (g_A G) s.heap H locs) (hsz : s.heap.size + cells = G.1 + h.length) (hRc : cells + h'.length ≤ R.cells + h.length) (hRs : slots + a_hsz h' ≤ R.slots + a_hsz h)
    (kk : g_K p l e R s m args below meth c Q G cd h cells slots o' L' st' h') : W p l e R s m args below meth c H locs cells slots Q (F0 m pc ls (st.map (g_v G))) := by
  obtain ⟨hx, hb, hr, hml, hown, hts, hlocks, hin, htab, hK, hX, hbase⟩ := M
  simp only [o_ok, Bool.and_eq_true, decide_eq_true_eq] at hok
  obtain ⟨hd, hok1, hok2⟩ := hok
  obtain ⟨rfl, hn⟩ := p_n hok1
  simp only [a_step] at hst
  split at hst
  · rename_i k9 j9
    simp only [a_newa] at hst
    split at hst
    · rename_i n9 rest
      split at hst
      · cases hst
      · rename_i hc9
        obtain ⟨rfl, rfl, rfl, rfl⟩ := g_go hst
        simp only [Bool.and_eq_true] at hok2
        rw [List.length_append] at hRc
        rw [a_hsz_app] at hRs
        refine va_newq (C := RX9) hx hb hown (hts _ (o_w_in hok2.1)) hX.2.2.2.2.1.1 hK hP (g_D G h) hS (fun z hz => Nat.le_trans hbase hz) (fun z => hc9 (Or.inl z)) rfl (by have := Nat.not_lt.mp (fun z => hc9 (Or.inr z)); omega) (by simp at hRc; omega) (by simp [a_sz] at hRs; omega) hd (fun x cA H1 hK1 hP1 hD1 hS1 => ?_)
        refine w_size (fun hz => ?_)
        obtain rfl := g_fresh hP1 hD1 (by omega)
        have hcA : cA = G.2.2.2 2 := by
          obtain ⟨_, _, _, _, _, e1⟩ := (hK1.2 3 _ rfl).2
          obtain ⟨_, _, _, _, _, e2⟩ := (hK1.2 2 _ rfl).2
          exact Option.some.inj (e1.symm.trans e2)
        subst hcA
        have hP1' : g_P G (h ++ [.inl (2, n9.toNatClampNeg, .inr (.inr (.inr (.inr (fun _ => none)))))]) H1 := by
          unfold g_P
          rw [g_ws_app, Nat.zero_add]
          exact hP1
        have k := kk H1 locs ls (cells + 1) (slots + n9.toNatClampNeg) hP1' hL hS1 (by rw [List.length_append]; simp; omega) (by rw [a_hsz_app]; simp [a_sz]; omega)
        rw [hn] at k
        exact k
    · cases hst
  · cases hst
theorem s_new (M : g_M l G sc q p s m args meth c) {z : Nat} (hok : o_ok q.2.2.2.2.1 q.2.1 q.2.2.2.1 (decide (q.1.name = "<init>")) cd o (pc, .new z, len, ps) = true) (hst : a_step sc o (.new z) ps L st h = some (.inl (o', L', st', h'))) (hP : g_P G h H) (hL : g_L G ls L) (hS : va_S (g_A G) s.heap H locs) (hsz : s.heap.size + cells = G.1 + h.length) (hRc : cells + h'.length ≤ R.cells + h.length) (hRs : slots + a_hsz h' ≤ R.slots + a_hsz h)
    (kk : g_K p l e R s m args below meth c Q G cd h cells slots o' L' st' h') : W p l e R s m args below meth c H locs cells slots Q (F0 m pc ls (st.map (g_v G))) := by
  obtain ⟨hx, hb, hr, hml, hown, hts, hlocks, hin, htab, hK, hX, hbase⟩ := M
  simp only [o_ok, Bool.and_eq_true, decide_eq_true_eq] at hok
  obtain ⟨hd, hok⟩ := hok
  simp only [a_step] at hst
  split at hst
  · rename_i ci tl
    obtain ⟨rfl, rfl, rfl, rfl⟩ := g_go hst
    simp only [o_new] at hok
    split at hok
    · rename_i ci9 j1 j2 j3 heq
      cases heq
      split at hok
      · rename_i rr hrr
        obtain ⟨C, T, N⟩ := rr
        simp only [Bool.and_eq_true, decide_eq_true_eq] at hok
        obtain ⟨⟨⟨⟨h13, hok1⟩, hw1⟩, hw2⟩, hw3⟩ := hok
        obtain ⟨rfl, hn⟩ := p_n hok1
        obtain ⟨hty, -⟩ := g_tyok _ _ h13 hrr
        obtain ⟨hN0, hN⟩ := g_N_all _ h13 _ hrr
        have hsz9 : a_sz (.inr (ci, a_new ci)) = N := by
          simp only [a_sz, hrr]
          rw [if_neg (by simp at hN0; omega)]
        rw [List.length_append] at hRc
        rw [a_hsz_app, hsz9] at hRs
        have hmap : (a_new ci).map (g_v G) = a_new ci := by
          unfold a_new
          rw [hrr]
          simp only [List.map_map]
          refine List.map_congr_left (fun j hj => ?_)
          simp only [Function.comp]
          have := List.mem_range.mp hj
          simp only at hN
          exact g_nf _ (g_tys_all ci h13 j (by omega)) G
        refine va_new (ci := ci) (fs := a_new ci) (C := C) (T := T) (N := N) (cl := a_cl) (D := G.2.2.1) hx hb hts (g_in hrr) (a_ty ci) hty hown (hts _ (o_w_in hw1)) (hts _ (o_w_in hw2)) (hts _ (o_w_in hw3)) hK hP (g_D G h) hS (fun z hz => Nat.le_trans hbase hz) hrr (fun j hj => ?_) (by simp at hRc; omega) (by omega) hd (fun x H1 hP1 hD1 hS1 => ?_)
        · unfold a_new vp_V
          rw [hrr]
          simp [hj]
        · refine w_size (fun hz => ?_)
          obtain rfl := g_fresh hP1 hD1 (by omega)
          have hP1' : g_P G (h ++ [.inr (ci, a_new ci)]) H1 := by
            unfold g_P
            rw [g_ws_app, Nat.zero_add]
            simp only [g_c, hmap]
            exact hP1
          have k := kk H1 locs ls (cells + 1) (slots + N) hP1' hL hS1 (by rw [List.length_append]; simp; omega) (by rw [a_hsz_app, hsz9]; omega)
          rw [hn] at k
          exact k
      · cases hok
    · rename_i heq
      cases heq
    · cases hok
  · split at hst
    · cases hst
    · cases hst
  · cases hst
end
end STEP
