/-! Any instruction of the small machine that goes on, or ends the method, is what the JVM does -/
section NEXT
variable {p : Program} {l : Launch} {e : Env} {R : Room} {s : State} {m : MethodId} {args : Array Value} {below : List Frame} {meth : Method} {c : Code} {H : Heap} {locs : List Loc} {cells slots : Nat} {Q : State → Prop} {G : AG} {sc : Nat × (Nat → Int32)} {q : AM} {cd : List AI} {o pc len : Nat} {i : Instr} {ps : List Nat} {L st : List Value} {h : AH} {o' : Nat} {L' st' : List Value} {h' : AH} {ls : Array Slot}
theorem o_iv_1 {own : String} {z : Nat} : ∀ {tl : List Nat}, o_iv own z (1 :: tl) = true → Cond.methodLink own z yJ0_length_8abf5 ∈ a_Ts
  | [], h => by simp [o_iv] at h
  | [j], h => o_w_in (by simpa [o_iv] using h)
  | _ :: _ :: _, h => by simp [o_iv] at h
theorem o_iv_2 {own : String} {z : Nat} : ∀ {tl : List Nat}, o_iv own z (2 :: tl) = true → Cond.methodLink own z yJ0_charAt_5068e ∈ a_Ts
  | [], h => by simp [o_iv] at h
  | [j], h => o_w_in (by simpa [o_iv] using h)
  | _ :: _ :: _, h => by simp [o_iv] at h
theorem s_invokevirtual (M : g_M l G sc q p s m args meth c) {z : Nat} (hok : o_ok q.2.2.2.2.1 q.2.1 q.2.2.2.1 (decide (q.1.name = "<init>")) cd o (pc, .invokevirtual z, len, ps) = true) (hst : a_step sc o (.invokevirtual z) ps L st h = some (.inl (o', L', st', h'))) (hP : g_P G h H) (hL : g_L G ls L) (hS : va_S (g_A G) s.heap H locs) (hLn : L.length = q.2.2.1) (hRf : 8 ≤ R.frames) (hRl : 150 ≤ R.locals) (hRc : cells + h'.length ≤ R.cells + h.length) (hRs : slots + a_hsz h' ≤ R.slots + a_hsz h)
    (kk : g_K p l e R s m args below meth c Q G cd h cells slots o' L' st' h') : W p l e R s m args below meth c H locs cells slots Q (F0 m pc ls (st.map (g_v G))) := by
  have hmls : c.maxLocals = ls.size := by rw [M.2.2.2.1, ← hLn, hL.1]
  simp only [o_ok, Bool.and_eq_true, decide_eq_true_eq] at hok
  obtain ⟨hd, hok1, hok2⟩ := hok
  obtain ⟨rfl, hn⟩ := p_n hok1
  simp only [a_step] at hst
  split at hst
  · simp only [a_callV, a_call] at hst
    repeat' (split at hst)
    all_goals cases hst
  · simp only [a_slen] at hst
    split at hst
    · rename_i qf rest
      split at hst
      · rename_i hc9
        obtain ⟨rfl, rfl, rfl, rfl⟩ := g_go hst
        have k := kk H locs ls cells slots hP hL hS rfl rfl
        rw [hn] at k
        exact v_slen M hc9.1 hd (o_iv_1 hok2) hS hmls hRf hRl (by omega) (by omega) (by rw [g_cats]; exact hc9.2) k
      · cases hst
    · cases hst
  · simp only [a_sat] at hst
    split at hst
    · rename_i ix qf rest
      split at hst
      · rename_i hc9
        obtain ⟨rfl, rfl, rfl, rfl⟩ := g_go hst
        have k := kk H locs ls cells slots hP hL hS rfl rfl
        rw [hn] at k
        exact v_sat M hc9.1 (a_in_iff.mp hc9.2.2) hd (o_iv_2 hok2) hS hmls hRf hRl (by omega) (by omega) (by rw [g_cats]; exact hc9.2.1) k
      · cases hst
    · cases hst
  · cases hst
set_option maxHeartbeats 4000000 in
theorem s_next (M : g_M l G sc q p s m args meth c) (hok : o_ok q.2.2.2.2.1 q.2.1 q.2.2.2.1 (decide (q.1.name = "<init>")) cd o (pc, i, len, ps) = true) (hst : a_step sc o i ps L st h = some (.inl (o', L', st', h'))) (hP : g_P G h H) (hL : g_L G ls L) (hLn : L.length = q.2.2.1) (hS : va_S (g_A G) s.heap H locs) (hsz : s.heap.size + cells = G.1 + h.length) (hRf : 8 ≤ R.frames) (hRl : 150 ≤ R.locals) (hRc : cells + h'.length ≤ R.cells + h.length) (hRs : slots + a_hsz h' ≤ R.slots + a_hsz h)
    (kk : g_K p l e R s m args below meth c Q G cd h cells slots o' L' st' h') : W p l e R s m args below meth c H locs cells slots Q (F0 m pc ls (st.map (g_v G))) := by
  cases i
  case iadd => exact s_iadd M hok hst hP hL hS kk
  case isub => exact s_isub M hok hst hP hL hS kk
  case imul => exact s_imul M hok hst hP hL hS kk
  case iand => exact s_iand M hok hst hP hL hS kk
  case ior => exact s_ior M hok hst hP hL hS kk
  case ixor => exact s_ixor M hok hst hP hL hS kk
  case ishl => exact s_ishl M hok hst hP hL hS kk
  case ishr => exact s_ishr M hok hst hP hL hS kk
  case iushr => exact s_iushr M hok hst hP hL hS kk
  case ladd => exact s_ladd M hok hst hP hL hS kk
  case lmul => exact s_lmul M hok hst hP hL hS kk
  case land => exact s_land M hok hst hP hL hS kk
  case lor => exact s_lor M hok hst hP hL hS kk
  case lshl => exact s_lshl M hok hst hP hL hS kk
  case lshr => exact s_lshr M hok hst hP hL hS kk
  case ineg => exact s_ineg M hok hst hP hL hS kk
  case lcmp => exact s_lcmp M hok hst hP hL hS kk
  case i2l => exact s_i2l M hok hst hP hL hS kk
  case l2i => exact s_l2i M hok hst hP hL hS kk
  case idiv => exact s_idiv M hok hst hP hL hS kk
  case irem => exact s_irem M hok hst hP hL hS kk
  case ldiv => exact s_ldiv M hok hst hP hL hS kk
  case lrem => exact s_lrem M hok hst hP hL hS kk
  case dup => exact s_dup M hok hst hP hL hS kk
  case pop => exact s_pop M hok hst hP hL hS kk
  case dup2 => exact s_dup2 M hok hst hP hL hS kk
  case iconst => exact s_iconst M hok hst hP hL hS kk
  case bipush => exact s_bipush M hok hst hP hL hS kk
  case sipush => exact s_sipush M hok hst hP hL hS kk
  case lconst => exact s_lconst M hok hst hP hL hS kk
  case iload_n => exact s_iload_n M hok hst hP hL hS kk
  case iload => exact s_iload M hok hst hP hL hS kk
  case lload_n => exact s_lload_n M hok hst hP hL hS kk
  case lload => exact s_lload M hok hst hP hL hS kk
  case aload_n => exact s_aload_n M hok hst hP hL hS kk
  case aload => exact s_aload M hok hst hP hL hS kk
  case istore_n => exact s_istore_n M hok hst hP hL hS kk
  case istore => exact s_istore M hok hst hP hL hS kk
  case lstore_n => exact s_lstore_n M hok hst hP hL hS kk
  case lstore => exact s_lstore M hok hst hP hL hS kk
  case astore_n => exact s_astore_n M hok hst hP hL hS kk
  case astore => exact s_astore M hok hst hP hL hS kk
  case iinc => exact s_iinc M hok hst hP hL hS kk
  case goto => exact s_goto M hok hst hP hL hS kk
  case ifCond => exact s_ifCond M hok hst hP hL hS kk
  case ifnull => exact s_ifnull M hok hst hP hL hS kk
  case ifnonnull => exact s_ifnonnull M hok hst hP hL hS kk
  case tableswitch => exact s_tableswitch M hok hst hP hL hS kk
  case lookupswitch => exact s_lookupswitch M hok hst hP hL hS kk
  case ldc => exact s_ldc M hok hst hP hL hS kk
  case getfield => exact s_getfield M hok hst hP hL hS kk
  case putfield => exact s_putfield M hok hst hP hL hS kk
  case laload => exact s_laload M hok hst hP hL hS kk
  case iaload => exact s_iaload M hok hst hP hL hS kk
  case aaload => exact s_aaload M hok hst hP hL hS kk
  case iastore => exact s_iastore M hok hst hP hL hS kk
  case lastore => exact s_lastore M hok hst hP hL hS kk
  case arraylength => exact s_arraylength M hok hst hP hL hS kk
  case aastore => exact s_aastore M hok hst hP hL hS kk
  case aconst_null => exact s_null M hok hst hP hL hS kk
  case if_icmp => exact s_icmp M hok hst hP hL hS kk
  case ldc_w => exact s_ldcw M hok hst hP hL hS kk
  case ldc2_w => exact s_ldc2 M hok hst hP hL hS kk
  case newarray => exact s_newarray M hok hst hP hL hS hsz hRc hRs kk
  case anewarray => exact s_anewarray M hok hst hP hL hS hsz hRc hRs kk
  case new => exact s_new M hok hst hP hL hS hsz hRc hRs kk
  case invokestatic => exact s_invokestatic M hok hst hP hL hS hLn hRf hRl hRc hRs kk
  case invokespecial => exact s_invokespecial M hok hst hP hL hS hLn hRf hRl hRc hRs kk
  case invokevirtual => exact s_invokevirtual M hok hst hP hL hS hLn hRf hRl hRc hRs kk
  case ireturn =>
    simp only [a_step] at hst
    repeat' (split at hst)
    all_goals cases hst
  case lreturn =>
    simp only [a_step] at hst
    repeat' (split at hst)
    all_goals cases hst
  case return_ =>
    simp only [a_step] at hst
    repeat' (split at hst)
    all_goals cases hst
  all_goals exact absurd hst (by simp [a_step])
end NEXT
