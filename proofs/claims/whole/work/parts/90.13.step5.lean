/-! One instruction of the small machine is what the JVM does: methods of the library that are no code of ours -/
section STEP
theorem o_is_1 {own : String} {z : Nat} : ∀ {tl : List Nat}, o_is own z (1 :: tl) = true → Cond.methodLink own z arraycopyName ∈ a_Ts
  | [], h => by simp [o_is] at h
  | [j], h => o_w_in (by simpa [o_is] using h)
  | _ :: _ :: _, h => by simp [o_is] at h
theorem o_is_2 {own : String} {z : Nat} : ∀ {tl : List Nat}, o_is own z (2 :: tl) = true → Cond.methodLink own z arraycopyName ∈ a_Ts
  | [], h => by simp [o_is] at h
  | [j], h => o_w_in (by simpa [o_is] using h)
  | _ :: _ :: _, h => by simp [o_is] at h
theorem o_is_4 {own : String} {z : Nat} : ∀ {tl : List Nat}, o_is own z (4 :: tl) = true → Cond.methodLink own z Lib.Math.min.name ∈ a_Ts
  | [], h => by simp [o_is] at h
  | [j], h => o_w_in (by simpa [o_is] using h)
  | _ :: _ :: _, h => by simp [o_is] at h
theorem o_is_5 {own : String} {z : Nat} : ∀ {tl : List Nat}, o_is own z (5 :: tl) = true → Cond.methodLink own z Lib.Math.max.name ∈ a_Ts
  | [], h => by simp [o_is] at h
  | [j], h => o_w_in (by simpa [o_is] using h)
  | _ :: _ :: _, h => by simp [o_is] at h
theorem o_is_6 {own : String} {z : Nat} : ∀ {tl : List Nat}, o_is own z (6 :: tl) = true → Cond.methodLink own z Lib.Math.abs.name ∈ a_Ts
  | [], h => by simp [o_is] at h
  | [j], h => o_w_in (by simpa [o_is] using h)
  | _ :: _ :: _, h => by simp [o_is] at h
theorem o_is_7 {own : String} {z : Nat} : ∀ {tl : List Nat}, o_is own z (7 :: tl) = true → Cond.methodLink own z Lib.MathLoose.min_long.x ∈ a_Ts
  | [], h => by simp [o_is] at h
  | [j], h => o_w_in (by simpa [o_is] using h)
  | _ :: _ :: _, h => by simp [o_is] at h
theorem o_ii_2 {own : String} {z : Nat} : ∀ {tl : List Nat}, o_ii own z (2 :: tl) = true → Cond.methodLink own z objectInit ∈ a_Ts
  | [], h => by simp [o_ii] at h
  | [j], h => o_w_in (by simpa [o_ii] using h)
  | _ :: _ :: _, h => by simp [o_ii] at h
theorem g_nfw : nativeFrameWords "java/lang/System" "arraycopy" 5 = 7 := by decide +kernel
section
variable {p : Program} {l : Launch} {e : Env} {R : Room} {s : State} {m : MethodId} {args : Array Value} {below : List Frame} {meth : Method} {c : Code} {H : Heap} {locs : List Loc} {cells slots : Nat} {Q : State → Prop} {G : AG} {sc : Nat × (Nat → Int32)} {q : AM} {cd : List AI} {o pc len : Nat} {i : Instr} {ps : List Nat} {L st : List Value} {h : AH} {o' : Nat} {L' st' : List Value} {h' : AH} {ls : Array Slot}
theorem s_invokestatic (M : g_M l G sc q p s m args meth c) {z : Nat} (hok : o_ok q.2.2.2.2.1 q.2.1 q.2.2.2.1 (decide (q.1.name = "<init>")) cd o (pc, .invokestatic z, len, ps) = true) (hst : a_step sc o (.invokestatic z) ps L st h = some (.inl (o', L', st', h'))) (hP : g_P G h H) (hL : g_L G ls L) (hS : va_S (g_A G) s.heap H locs) (hLn : L.length = q.2.2.1) (hRf : 8 ≤ R.frames) (hRl : 150 ≤ R.locals) (hRc : cells + h'.length ≤ R.cells + h.length) (hRs : slots + a_hsz h' ≤ R.slots + a_hsz h)
    (kk : g_K p l e R s m args below meth c Q G cd h cells slots o' L' st' h') : W p l e R s m args below meth c H locs cells slots Q (F0 m pc ls (st.map (g_v G))) := by
  obtain ⟨hx, hb, hr, hml, hown, hts, hlocks, hin, htab, hK, hX, hbase⟩ := M
  simp only [o_ok, Bool.and_eq_true, decide_eq_true_eq] at hok
  obtain ⟨hd, hok1, hok2⟩ := hok
  obtain ⟨rfl, hn⟩ := p_n hok1
  have hmls : c.maxLocals = ls.size := by rw [hml, ← hLn, hL.1]
  simp only [a_step] at hst
  split at hst
  · simp only [a_call] at hst
    split at hst
    · cases hst
    · cases hst
  · simp only [a_cpi] at hst
    split at hst
    · rename_i n9 dp b9 sp a9 rest
      split at hst
      · rename_i n0 f0 n1 g1 ha hb9
        split at hst
        · rename_i hc9
          obtain ⟨c1, c2, c3, c4, c5, c6⟩ := hc9
          obtain ⟨rfl, rfl, rfl, rfl⟩ := g_go hst
          refine va_copyi hx hb hmls hown (hts _ (o_is_1 hok2)) (hts _ (g_ws1 (by simp))) (hts _ (g_ws1 (by simp))) (hts _ (g_ws1 (by simp))) hK hP (g_D G h) hS a9 b9 0 0 (g_at G ha) (g_at G hb9) rfl rfl rfl c1 c2 c3 c4 c5 (fun _ _ => rfl) (by omega) (by rw [g_cats, g_nfw]; omega) hd (fun H1 locs1 hP1 hD1 hS1 => ?_)
          have hP1' : g_P G (h.set b9 (.inl (0, n1, .inl (va_cpy f0 g1 sp.toNatClampNeg dp.toNatClampNeg n9.toNatClampNeg)))) H1 := by
            unfold g_P
            rw [g_ws_set]
            simpa [g_c, g_a] using hP1
          have k := kk H1 locs1 ls cells slots hP1' hL hS1 (by rw [List.length_set]) (congrArg (fun z => slots + z) (a_hsz_set (.inl (0, n1, .inl g1)) (.inl (0, n1, .inl (va_cpy f0 g1 sp.toNatClampNeg dp.toNatClampNeg n9.toNatClampNeg))) rfl h b9 hb9).symm)
          rw [hn] at k
          exact k
        · cases hst
      · cases hst
    · cases hst
  · simp only [a_cpl] at hst
    split at hst
    · rename_i n9 dp b9 sp a9 rest
      split at hst
      · rename_i n0 f0 n1 g1 ha hb9
        split at hst
        · rename_i hc9
          obtain ⟨c1, c2, c3, c4, c5, c6⟩ := hc9
          obtain ⟨rfl, rfl, rfl, rfl⟩ := g_go hst
          refine va_copyl hx hb hmls hown (hts _ (o_is_2 hok2)) (hts _ (g_ws1 (by simp))) (hts _ (g_ws1 (by simp))) (hts _ (g_ws1 (by simp))) hK hP (g_D G h) hS a9 b9 1 1 (g_at G ha) (g_at G hb9) rfl rfl rfl c1 c2 c3 c4 c5 (fun _ _ => rfl) (by omega) (by rw [g_cats, g_nfw]; omega) hd (fun H1 locs1 hP1 hD1 hS1 => ?_)
          have hP1' : g_P G (h.set b9 (.inl (1, n1, .inr (.inl (va_cpy f0 g1 sp.toNatClampNeg dp.toNatClampNeg n9.toNatClampNeg))))) H1 := by
            unfold g_P
            rw [g_ws_set]
            simpa [g_c, g_a] using hP1
          have k := kk H1 locs1 ls cells slots hP1' hL hS1 (by rw [List.length_set]) (congrArg (fun z => slots + z) (a_hsz_set (.inl (1, n1, .inr (.inl g1))) (.inl (1, n1, .inr (.inl (va_cpy f0 g1 sp.toNatClampNeg dp.toNatClampNeg n9.toNatClampNeg)))) rfl h b9 hb9).symm)
          rw [hn] at k
          exact k
        · cases hst
      · cases hst
    · cases hst
  · simp only [a_call] at hst
    split at hst
    · cases hst
    · cases hst
  · simp only [a_m2] at hst
    split at hst
    · rename_i y x r
      split at hst
      · rename_i hcat
        obtain ⟨rfl, rfl, rfl, rfl⟩ := g_go hst
        have k := kk H locs ls cells slots hP hL hS rfl rfl
        rw [hn] at k
        exact va_mmin hx hb hmls hown (hts _ (o_is_4 hok2)) (hts _ (g_ws1 (by simp))) (hts _ (g_ws1 (by simp))) (hts _ (g_ws1 (by simp))) (by omega) (by rw [g_cats]; omega) (by omega) (by omega) hd k
      · cases hst
    · cases hst
  · simp only [a_m2] at hst
    split at hst
    · rename_i y x r
      split at hst
      · rename_i hcat
        obtain ⟨rfl, rfl, rfl, rfl⟩ := g_go hst
        have k := kk H locs ls cells slots hP hL hS rfl rfl
        rw [hn] at k
        exact va_mmax hx hb hmls hown (hts _ (o_is_5 hok2)) (hts _ (g_ws1 (by simp))) (hts _ (g_ws1 (by simp))) (hts _ (g_ws1 (by simp))) (by omega) (by rw [g_cats]; omega) (by omega) (by omega) hd k
      · cases hst
    · cases hst
  · split at hst
    · rename_i x r
      split at hst
      · rename_i hcat
        obtain ⟨rfl, rfl, rfl, rfl⟩ := g_go hst
        have k := kk H locs ls cells slots hP hL hS rfl rfl
        rw [hn] at k
        exact va_mabs hx hb hmls hown (hts _ (o_is_6 hok2)) (hts _ (g_ws1 (by simp))) (hts _ (g_ws1 (by simp))) (hts _ (g_ws1 (by simp))) (by omega) (by rw [g_cats]; omega) (by omega) (by omega) hd k
      · cases hst
    · cases hst
  · split at hst
    · rename_i y x r
      split at hst
      · rename_i hcat
        obtain ⟨rfl, rfl, rfl, rfl⟩ := g_go hst
        have k := kk H locs ls cells slots hP hL hS rfl rfl
        rw [hn] at k
        exact va_mmin_long hx hb hmls hown (hts _ (o_is_7 hok2)) (hts _ (g_ws1 (by simp))) (hts _ (g_ws1 (by simp))) (hts _ (g_ws1 (by simp))) (by omega) (by rw [g_cats]; omega) (by omega) (by omega) hd k
      · cases hst
    · cases hst
  · cases hst
theorem s_invokespecial (M : g_M l G sc q p s m args meth c) {z : Nat} (hok : o_ok q.2.2.2.2.1 q.2.1 q.2.2.2.1 (decide (q.1.name = "<init>")) cd o (pc, .invokespecial z, len, ps) = true) (hst : a_step sc o (.invokespecial z) ps L st h = some (.inl (o', L', st', h'))) (hP : g_P G h H) (hL : g_L G ls L) (hS : va_S (g_A G) s.heap H locs) (hLn : L.length = q.2.2.1) (hRf : 8 ≤ R.frames) (hRl : 150 ≤ R.locals) (hRc : cells + h'.length ≤ R.cells + h.length) (hRs : slots + a_hsz h' ≤ R.slots + a_hsz h)
    (kk : g_K p l e R s m args below meth c Q G cd h cells slots o' L' st' h') : W p l e R s m args below meth c H locs cells slots Q (F0 m pc ls (st.map (g_v G))) := by
  obtain ⟨hx, hb, hr, hml, hown, hts, hlocks, hin, htab, hK, hX, hbase⟩ := M
  simp only [o_ok, Bool.and_eq_true, decide_eq_true_eq] at hok
  obtain ⟨hd, hok⟩ := hok
  have hmls : c.maxLocals = ls.size := by rw [hml, ← hLn, hL.1]
  simp only [a_step] at hst
  split at hst
  · simp only [a_callI, a_call] at hst
    split at hst
    · split at hst
      · cases hst
      · cases hst
    · cases hst
  · simp only [a_callI, a_call] at hst
    split at hst
    · split at hst
      · cases hst
      · cases hst
    · cases hst
  · split at hst
    · rename_i tl r9 r
      split at hst
      · rename_i hcat
        obtain ⟨rfl, rfl, rfl, rfl⟩ := g_go hst
        simp only [Bool.and_eq_true] at hok
        obtain ⟨hok1, hok2⟩ := hok
        obtain ⟨rfl, hn⟩ := p_n hok1
        have k := kk H locs ls cells slots hP hL hS rfl rfl
        rw [hn] at k
        refine W.objInit hx hb hown (hts _ (o_ii_2 hok2)) (hts _ (g_ws1 (by simp))) (hts _ (g_ws1 (by simp))) rfl hmls.symm rfl hd (by omega) ?_ k
        show 2 * JFrame.monitorRoom _ + ((st'.map (g_v G)).map fun v => v.category).sum + 12 ≤ R.locals
        rw [g_cats]
        have : JFrame.monitorRoom (F0 m pc ls (List.map (g_v G) (Value.ref r9 :: st'))) = 0 := rfl
        omega
      · cases hst
    · cases hst
  · cases hst
end
end STEP
