/-! Throws and calls -/
section CALLS
def o_cd (w : Cond) : Bool := match w with
  | .castable _ _ => true
  | .declares _ => true
  | _ => false
abbrev a_nms : List String := ["java/lang/RuntimeException", "java/lang/Exception"]
theorem x_g0 : ((vx_atS RX11 369 "java/lang/IllegalArgumentException" a_nms).all fun w => decide (w ∈ lw_tbl) && (goodWord w || o_cd w)) = true := by decide +kernel
theorem x_o0 : ∀ z, ∀ w ∈ Cond.classLink RX11 z "java/lang/IllegalArgumentException" :: Cond.initialized "java/lang/IllegalArgumentException" :: vx_atS RX11 369 "java/lang/IllegalArgumentException" a_nms, vx_ot w = true := by
  intro z w hw
  rcases List.mem_cons.mp hw with rfl | hw
  · rfl
  · exact List.all_eq_true.mp (by decide +kernel : (Cond.initialized "java/lang/IllegalArgumentException" :: vx_atS RX11 369 "java/lang/IllegalArgumentException" a_nms).all vx_ot = true) w hw
theorem x_g1 : ((x_atN RX11 383 "java/util/NoSuchElementException").all fun w => decide (w ∈ lw_tbl) && (goodWord w || o_cd w)) = true := by decide +kernel
theorem x_o1 : ∀ z, ∀ w ∈ Cond.classLink RX11 z "java/util/NoSuchElementException" :: Cond.initialized "java/util/NoSuchElementException" :: x_atN RX11 383 "java/util/NoSuchElementException", vx_ot w = true := by
  intro z w hw
  rcases List.mem_cons.mp hw with rfl | hw
  · rfl
  · exact List.all_eq_true.mp (by decide +kernel : (Cond.initialized "java/util/NoSuchElementException" :: x_atN RX11 383 "java/util/NoSuchElementException").all vx_ot = true) w hw
theorem x_at {l : Launch} {G : AG} {sc : Nat × (Nat → Int32)} {s : State} {args : Array Value} {ws : List Cond} (hX : g_X l G sc s s.heap) (hts : ∀ w ∈ a_Ts, w.before args s = true) (h : (ws.all fun w => decide (w ∈ lw_tbl) && (goodWord w || o_cd w)) = true) : ∀ w ∈ ws, w.before args s = true := by
  intro w hw
  have h1 := List.all_eq_true.mp h w hw
  simp only [Bool.and_eq_true, decide_eq_true_eq, Bool.or_eq_true] at h1
  obtain ⟨h1, h2 | h2⟩ := h1
  · exact hts w (List.mem_filter.mpr ⟨h1, h2⟩)
  · cases w with
    | castable C T => exact va_Nw.use rfl (hX.2.2.2.1.2.2.1 _ _ h1)
    | declares x => exact va_Nw.use rfl (hX.2.2.2.1.2.2.2 _ h1)
    | _ => cases h2
theorem x_fit : Bundle.fit "java/lang/IllegalArgumentException" = true ∧ Bundle.fit "java/util/NoSuchElementException" = true ∧ ∀ n ∈ a_nms, Bundle.fit n = true := by decide +kernel
section
variable {p : Program} {l : Launch} {e : Env} {R : Room} {s : State} {m : MethodId} {args : Array Value} {below : List Frame} {meth : Method} {c : Code} {H : Heap} {locs : List Loc} {cells slots : Nat} {Q : State → Prop} {G : AG} {sc : Nat × (Nat → Int32)} {q : AM} {cd : List AI} {o pc len : Nat} {i : Instr} {ps : List Nat} {L st : List Value} {h : AH} {h' : AH} {ls : Array Slot} {h0 z0 : Nat}
/-- the method throws here -/
theorem s_thr (M : g_M l G sc q p s m args meth c) (hok : o_ok q.2.2.2.2.1 q.2.1 q.2.2.2.1 (decide (q.1.name = "<init>")) cd o (pc, i, len, ps) = true) (hhh : q.2.2.2.2.1 = RX11 → q.2.2.2.2.2 = []) {x : Nat} (hst : a_step sc o i ps L st h = some (.inr (.inl (.inr x, h')))) (hP : g_P G h H) (hL : g_L G ls L) (hLn : L.length = q.2.2.1) (hS : va_S (g_A G) s.heap H locs) (hsz : s.heap.size = G.1 + h0) (hc : cells + h0 = h.length) (hs : slots + z0 = a_hsz h) (hRf : 8 ≤ R.frames) (hRl : 150 ≤ R.locals) (hRc : h'.length ≤ R.cells + h0) (hRs : a_hsz h' ≤ R.slots + z0) :
    W p l e R s m args below meth c H locs cells slots (vx_MQ below (g_Q G (.inr x) h') (g_XC G (.inr x) h') args s (h'.length - h0) (a_hsz h' - z0) (g_A G)) (F0 m pc ls (st.map (g_v G))) := by
  have hM := M
  obtain ⟨hx, hb, hr, hml, hown, hts, hlocks, hin, htab, hK, hX, hbase⟩ := M
  simp only [o_ok, Bool.and_eq_true, decide_eq_true_eq] at hok
  obtain ⟨hd, hok⟩ := hok
  refine w_size (fun hz => ?_)
  have hH := g_size hP hS hbase hsz hc hz
  have key : ∃ z tl, i = .new z ∧ ps = 1 :: x :: tl ∧ a_cat st ≤ 8 ∧ h' = h ++ [.inr (13 + x, [])] := by
    cases i
    case new z =>
      simp only [a_step] at hst
      split at hst
      · simp [a_go] at hst
      · split at hst
        · rename_i hcat
          cases hst
          exact ⟨_, _, rfl, rfl, hcat, rfl⟩
        · cases hst
      · cases hst
    all_goals
      exfalso
      revert hst
      simp only [a_step]
      (try unfold a_stI) ; (try unfold a_stA) ; (try unfold a_stL) ; (try unfold a_i2) ; (try unfold a_i2d) ; (try unfold a_l2) ; (try unfold a_l2d) ; (try unfold a_lsh) ; (try unfold a_iald) ; (try unfold a_lald) ; (try unfold a_aald) ; (try unfold a_iast) ; (try unfold a_last) ; (try unfold a_aast) ; (try unfold a_alen)
      repeat' (first | (intro hq; cases hq; done) | (simp [a_go, a_to, a_ld, a_sto]; done) | split | unfold a_br | unfold a_ld | unfold a_sto | unfold a_getf | unfold a_putf | unfold a_newa | unfold a_m2 | unfold a_cpi | unfold a_cpl | unfold a_slen | unfold a_sat | unfold a_callV | unfold a_callI | unfold a_call)
  obtain ⟨z, tl, rfl, rfl, hcat, rfl⟩ := key
  simp only [o_new] at hok
  split at hok
  · rename_i heq
    cases heq
  · rename_i k si j1 j2 heq
    cases heq
    split at hok
    · rename_i rr tt hrr htt
      simp only [Bool.and_eq_true, decide_eq_true_eq] at hok
      obtain ⟨⟨⟨⟨⟨⟨⟨⟨⟨e1, e2⟩, e3⟩, e4⟩, w1⟩, w2⟩, d3⟩, d4⟩, d7⟩, d10⟩ := hok
      subst e1
      have htab0 : c.exceptionTable.toList = [] := by rw [htab, hhh e3]; rfl
      have hsi : si < 27 := by
        have := (List.getElem?_eq_some_iff.mp htt).1
        exact this
      obtain ⟨av, hR, -⟩ := hX.1 si hsi
      rw [List.getD_eq_getElem?_getD, htt] at hR
      simp only [Option.getD_some, e4] at hR
      rw [e3] at hown w1
      have hszx : a_sz (.inr (13 + x, [])) = 6 := by
        match x, e2 with
        | 0, _ => rfl
        | 1, _ => rfl
      rw [List.length_append] at hRc ⊢
      rw [a_hsz_app, hszx] at hRs ⊢
      have hend : ∀ (t : State) (ce : Cell), s.vm.Alike t.vm → t.heap.size = H.size + 1 → (∀ z : Nat, z < H.size → t.heap[z]? = H[z]?) → t.heap[H.size]? = some ce → ce.vm = .none → s.vm.findClass rr.1 = some ce.cls → g_XC G (.inr x) (h ++ [.inr (13 + x, [])]) rr.1 s t := by
        intro t ce hal hts1 hsame hce hcv hcc
        have hex : rr.1 = a_ex x := by
          match x, e2, hrr with
          | 0, _, hq => cases hq; rfl
          | 1, _, hq => cases hq; rfl
        refine ⟨e2, hex, by rw [hts1, hH, List.length_append]; rfl, ?_, ?_⟩
        · unfold g_P
          rw [g_ws_app, Nat.zero_add]
          refine va_P.app (fun j z hj => ?_) (fun j z hj => ?_)
          · exact (hP j z hj).kept (hsame _ (hP j z hj).lt)
          · have hj0 : j = 0 := by
              have := (List.getElem?_eq_some_iff.mp hj).1
              simp at this
              exact this
            subst hj0
            simp at hj
            subst hj
            refine ⟨rr, hrr, ce, by rw [← hH]; exact hce, ?_, hcv, ?_⟩
            · have := (hK.1 (13 + x) rr hrr).2.1
              exact (Option.some.inj (hcc.symm.trans this))
            · intro j hj
              have hN : rr.2.2 = 0 := by
                match x, e2, hrr with
                | 0, _, hq => cases hq; rfl
                | 1, _, hq => cases hq; rfl
              omega
        · exact ⟨by rw [hts1]; exact Nat.le_trans hS.1 (Nat.le_succ _), fun z hz1 hz2 => by rw [hsame z (Nat.lt_of_lt_of_le hz1 hS.1)]; exact hS.2.1 z hz1 hz2⟩
      have hsz9 : ls.size = c.maxLocals := by rw [hL.1, hLn, hml]
      have hc1 : ((st.map (g_v G)).map fun v => v.category).sum + (13 * (a_nms.length + 1) + 43) ≤ R.locals := by
        rw [g_cats]
        have : a_nms.length = 2 := rfl
        omega
      have hk2 : x = 0 ∨ x = 1 := by omega
      rcases hk2 with rfl | rfl
      · cases hrr
        exact s_throwSW (A := g_A G) (names := a_nms) (sa := G.2.1 si) (text := tt.2.2) hx hb hX.2.2.2.2.2.1 hown x_fit.1 x_fit.2.2 (hts _ (o_w_in w1)) (hts _ (o_w_in w2)) hR (x_at hX hts x_g0) (x_o0 z) hX.2.1.1 hX.2.1.2 hS hsz9 hd d3 d4 d7 d10 (fun y hy => by rw [htab0] at hy; cases hy) (by show 2 + 3 < R.frames; omega) hc1 (by simp at hRc; omega) (by omega) hlocks hend hS.2.2 (by simp; omega) (by omega)
      · cases hrr
        exact s_throwN (A := g_A G) (sa := G.2.1 si) (text := tt.2.2) hx hb hX.2.2.2.2.2.1 hown x_fit.2.1 (hts _ (o_w_in w1)) (hts _ (o_w_in w2)) hR (x_at hX hts x_g1) (x_o1 z) hX.2.1.1 hX.2.1.2 hS hsz9 hd d3 d4 d7 d10 (fun y hy => by rw [htab0] at hy; cases hy) (by omega) hc1 (by simp at hRc; omega) (by omega) hlocks hend hS.2.2 (by simp; omega) (by omega)
    · cases hok
  · cases hok
end
end CALLS
