/-! A call of a method whose contract is known -/
section CALL
section
variable {p : Program} {l : Launch} {e : Env} {R : Room} {s : State} {m : MethodId} {args : Array Value} {below : List Frame} {meth : Method} {c : Code} {H : Heap} {locs : List Loc} {cells slots mc ms : Nat} {Q : State → Prop} {G : AG} {sc : Nat × (Nat → Int32)} {q : AM} {pc : Nat} {h h1 : AH} {ls : Array Slot} {Qa : State → Outcome → State → Prop} {XC : String → State → State → Prop} {free : Addr → Prop} {st0 rest : List Value}
theorem w_call (hr : va_Run p l e R s m args below meth c H locs cells slots mc ms (F0 m pc ls st0) rest Qa free) (kk : ∀ (v : Option Value) (st₀ t : State) (locs' : List Loc), st₀.heap = H → Qa st₀ (.returned v) t → (∀ z ∈ locs', z ∈ locs ∨ free z.base) → W p l e R s m args below meth c t.heap locs' (cells + mc) (slots + ms) Q (F0 m (pc + 3) ls (v.toList ++ rest))) : W p l e R s m args below meth c H locs cells slots Q (F0 m pc ls st0) := by
  intro T hT X
  obtain ⟨v, st₀, t, T', L, h0, X', hL, e1, e2, hq, st⟩ := hr T hT X
  obtain ⟨t2, a1, b1⟩ := kk v st₀ t (locs ++ L) h0 hq (fun z hz => (List.mem_append.mp hz).imp id (hL z)) T' e1 X'
  exact ⟨t2, st t2 a1, b1⟩
theorem w_callx (hr : vx_Run p l e R s m args below meth c H locs cells slots mc ms (F0 m pc ls st0) rest Qa XC free) (hno : ∀ st₀ v t, ¬ Qa st₀ (.returned v) t) (kk : ∀ (z : Addr) (st₀ t : State) (locs' : List Loc) (E : String) (ce : Cell), st₀.heap = H → XC E st₀ t → t.heap[z]? = some ce → ce.vm = .none → s.vm.findClass E = some ce.cls → (∀ z ∈ locs', z ∈ locs ∨ free z.base) → vx_W p l e R s m args below meth c t.heap locs' (cells + mc) (slots + ms) Q (F0 m pc ls rest) z) : W p l e R s m args below meth c H locs cells slots Q (F0 m pc ls st0) := by
  intro T hT X
  rcases hr T hT X with ⟨v, st₀, t, T', L, h0, X', hL, e1, e2, hq, st⟩ | ⟨z, st₀, t, T', L, E, ce, h0, X', hL, e1, e2, hq, hce, hcv, hcl, st⟩
  · exact absurd hq (hno _ _ _)
  · obtain ⟨t2, a1, b1⟩ := kk z st₀ t (locs ++ L) E ce h0 hq hce hcv hcl (fun z hz => (List.mem_append.mp hz).imp id (hL z)) T' e1 X'
    exact ⟨t2, st.trans a1, b1⟩
theorem g_pre {vs : List Value} (M : g_M l G sc q p s m args meth c) (hP : g_P G h H) (hS : va_S (g_A G) s.heap H locs) (hH : H.size = G.1 + h.length) {av : Array Value} (hav : av = (vs.map (g_v G)).toArray) : ∀ U : State, U.heap = H → s.WarmedH U.vm → g_Pc l G sc vs h av U := by
  obtain ⟨hx, hb, hr, hml, hown, hts, hlocks, hin, htab, hK, hX, hbase⟩ := M
  intro U hU hW
  exact ⟨hav, by rw [hU]; exact hH, by rw [hU]; exact hP, va_K.moved hW.alike hK, hX.warm hW (fun a ha hna => by rw [hU]; exact hS.2.1 a ha hna)⟩
theorem g_cwc {qj : AM} (h : qj.2.2.2.2.2 = []) : a_cw qj = Cond.code qj.1 qj.2.1 qj.2.2.1 qj.2.2.2.1 := by unfold a_cw; rw [h]
theorem g_cww {qj : AM} (h : ¬ qj.2.2.2.2.2 = []) : a_cw qj = Cond.codeWith qj.1 qj.2.1 qj.2.2.1 qj.2.2.2.1 qj.2.2.2.2.2 := by
  unfold a_cw
  split
  · rename_i e2
    exact absurd e2 h
  · rfl
theorem g_sub {ws : List Cond} {qj : AM} (hc : a_cw qj ∈ a_Ts) (h : ∀ w ∈ ws, w ∈ a_Ts) : ∀ w ∈ ws ++ (a_cw qj :: a_Ts), w ∈ a_Ts := by
  intro w hw
  rcases List.mem_append.mp hw with hw | hw
  · exact h w hw
  · rcases List.mem_cons.mp hw with rfl | hw
    · exact hc
    · exact hw
/-- the call comes back, or throws, as its contract says -/
theorem s_callret {i : Instr} {z d : Nat} {qj : AM} {wj : Nat × Nat × Nat} {cdj : List AI} {mlj : Nat} {vs rs : List Value} {v : Option Value} (M : g_M l G sc q p s m args meth c) (hoj : o_meth qj wj cdj mlj = true) (hd : decode q.2.1 pc = .ok (i, 3)) (ht : g_tgt q.2.2.2.2.1 z i h vs qj wj.2.2)
    (hMet : vx_Met l qj.1 (a_cw qj :: a_Ts) (g_rm d (h1.length - h.length) (a_hsz h1 - a_hsz h)) (g_Pc l G sc vs h) (g_Q G (.inl v) h1) (g_XC G (.inl v) h1) (h1.length - h.length) (a_hsz h1 - a_hsz h) (g_A G))
    (hcat : a_cat rs ≤ 8) (hRf : d + 1 + 8 ≤ R.frames) (hRl : 60 * (d + 1) + 150 ≤ R.locals) (hc : cells + (h1.length - h.length) ≤ R.cells) (hs : slots + (a_hsz h1 - a_hsz h) ≤ R.slots) (hP : g_P G h H) (hls : ls.size = q.2.2.1) (hS : va_S (g_A G) s.heap H locs) (hH : H.size = G.1 + h.length)
    (kk : ∀ (H' : Heap) (locs' : List Loc), g_P G h1 H' → va_S (g_A G) s.heap H' locs' → W p l e R s m args below meth c H' locs' (cells + (h1.length - h.length)) (slots + (a_hsz h1 - a_hsz h)) Q (F0 m (pc + 3) ls ((v.toList ++ rs).map (g_v G)))) :
    W p l e R s m args below meth c H locs cells slots Q (F0 m pc ls ((vs.reverse ++ rs).map (g_v G))) := by
  obtain ⟨c1, c2, c3, c4, c5, c6, c7, c8, -, -⟩ := g_cw_in hoj
  have hM2 := x_met hMet (fun _ _ _ hx => hx)
  have S : CallFix p m c q.2.1 q.2.2.1 s args a_Ts q.2.2.2.2.1 := ⟨M.1, M.2.1, M.2.2.2.1, M.2.2.2.2.1, M.2.2.2.2.2.1⟩
  have hts := M.2.2.2.2.2.1
  have hrm : (g_rm d (h1.length - h.length) (a_hsz h1 - a_hsz h)).frames + 1 ≤ R.frames ∧ 8 + (qj.2.2.1 + 11) + (g_rm d (h1.length - h.length) (a_hsz h1 - a_hsz h)).locals ≤ R.locals := ⟨by show d + 8 + 1 ≤ R.frames; omega, by show 8 + (qj.2.2.1 + 11) + (60 * d + 150) ≤ R.locals; omega⟩
  have hroom : ∀ (st9 : List Value), 2 * (F0 m pc ls st9).monitorRoom + ((rs.map (g_v G)).map fun v => v.category).sum ≤ 8 := fun st9 => by
    rw [g_cats]
    have : (F0 m pc ls st9).monitorRoom = 0 := rfl
    omega
  have fin : ∀ (av : Array Value), va_Run p l e R s m args below meth c H locs cells slots (h1.length - h.length) (a_hsz h1 - a_hsz h) (F0 m pc ls ((vs.reverse ++ rs).map (g_v G))) (rs.map (g_v G)) (g_Q G (.inl v) h1 av) (g_A G) → W p l e R s m args below meth c H locs cells slots Q (F0 m pc ls ((vs.reverse ++ rs).map (g_v G))) := by
    intro av hr
    refine w_call hr (fun v9 st₀ t locs' e0 hq hlocs => ?_)
    obtain ⟨e1, e2, e3, e4⟩ := hq
    have e5 : v9 = v.map (g_v G) := by cases e1; rfl
    have hS' : va_S (g_A G) s.heap t.heap locs' := by
      obtain ⟨f1, f2⟩ := e4
      rw [e0] at f1 f2
      exact ⟨Nat.le_trans hS.1 f1, fun a ha hna => by rw [f2 a (Nat.lt_of_lt_of_le ha hS.1) hna]; exact hS.2.1 a ha hna, fun z hz => (hlocs z hz).elim (hS.2.2 z) id⟩
    have k := kk t.heap locs' e3 hS'
    rw [e5]
    cases v with
    | none => exact k
    | some v => exact k
  rcases ht with ⟨rfl, hhh, rc, vs', ci, fs, C, rfl, hl, hcell, hC, hcls, w1, w2, w3⟩ | ⟨rfl, hl, w1, w2⟩ | ⟨rfl, hhh, hnm, hrt, ⟨rc, vs', rfl, hl⟩, w1, w2⟩
  · refine fin _ (va_runV (As := vs'.map (g_v G)) (b := G.1 + rc) (C := C.1) S hM2 (cwV wj.2.2 hts (a_Ts_ok _ (g_sub c1 ?_)) (by rw [g_cwc hhh]) rfl rfl ⟨hcls, c6.1, c6.2, c7⟩ hrm) ⟨g_Pc_blind, ?_, g_pre M hP hS hH rfl⟩ rfl (by rw [List.length_map]; exact hl) hls ?_ (hroom _) hd ⟨hc, hs⟩)
    · intro w hw
      simp only [List.mem_cons, List.not_mem_nil, or_false] at hw
      rcases hw with rfl | rfl | rfl | rfl
      · exact w1
      · exact w2
      · exact w3
      · rw [← hcls]; exact c8
    · obtain ⟨C0, T0, N0⟩ := C
      exact va_recv M.2.2.2.2.2.2.2.2.2.1 hP (ci := ci) (q0 := rc) hC (g_at G hcell)
    · show ((Value.ref rc :: vs').reverse ++ rs).map (g_v G) = _
      simp [g_v]
  · by_cases hhh : qj.2.2.2.2.2 = []
    · refine fin _ (va_runS (As := vs.map (g_v G)) S hM2 (va_cwS wj.2.2 hts (a_Ts_ok _ (g_sub c1 ?_)) (by rw [g_cwc hhh]) rfl rfl ⟨c6.1, c6.2, c7⟩ hrm) ⟨g_Pc_blind, g_pre M hP hS hH rfl⟩ rfl (by rw [List.length_map]; exact hl) hls (g_rev G vs rs) (hroom _) hd ⟨hc, hs⟩)
      intro w hw
      simp only [List.mem_cons, List.not_mem_nil, or_false] at hw
      rcases hw with rfl | rfl | rfl
      · exact w1
      · exact w2
      · exact c8
    · refine fin _ (vx_runSW (As := vs.map (g_v G)) (hh := qj.2.2.2.2.2) S hM2 (vx_cwSW wj.2.2 hts (a_Ts_ok _ (g_sub c1 ?_)) (by rw [g_cww hhh]) rfl rfl ⟨c6.1, c6.2, c7⟩ hrm) ⟨g_Pc_blind, g_pre M hP hS hH rfl⟩ rfl (by rw [List.length_map]; exact hl) hls (g_rev G vs rs) (hroom _) hd ⟨hc, hs⟩)
      intro w hw
      simp only [List.mem_cons, List.not_mem_nil, or_false] at hw
      rcases hw with rfl | rfl | rfl
      · exact w1
      · exact w2
      · exact c8
  · have hstk : (F0 m pc ls (((Value.ref rc :: vs').reverse ++ rs).map (g_v G))).stack = (vs'.map (g_v G)).reverse ++ .ref (G.1 + rc) :: rs.map (g_v G) := by
      show ((Value.ref rc :: vs').reverse ++ rs).map (g_v G) = _
      simp [g_v]
    have hpre : ∀ U : State, U.heap = H → s.WarmedH U.vm → g_Pc l G sc (.ref rc :: vs') h (Value.ref (G.1 + rc) :: vs'.map (g_v G)).toArray U := g_pre M hP hS hH rfl
    have hG : GoodIn a_Ts (a_cw qj :: a_Ts) := a_Ts_ok _ (g_sub (ws := []) c1 (fun _ h => by cases h))
    rcases w1 with w1 | w1
    · exact fin _ (va_runI (As := vs'.map (g_v G)) (b := G.1 + rc) S hM2 (cwI wj.2.2 hts hG (by rw [g_cwc hhh, hrt]) rfl rfl (hts _ c8) (hts _ w1) (hts _ w2) hnm ⟨c6.1, c6.2, c7⟩ hrm) ⟨g_Pc_blind, hpre⟩ rfl (by rw [List.length_map]; exact hl) hls hstk (hroom _) hd ⟨hc, hs⟩)
    · exact fin _ (va_runIN (As := vs'.map (g_v G)) (b := G.1 + rc) (host := "TownTrain") S hM2 ⟨va_cnB wj.2.2 hts hG (by rw [g_cwc hhh, hrt]) rfl rfl (M.2.2.2.2.2.2.2.2.2.2.1.2.2.2.1.2.1 _ _ _ _ w1) (hts _ c8) ⟨c6.1, c6.2, c7⟩ hrm, hnm, hts _ w2⟩ ⟨g_Pc_blind, hpre⟩ rfl (by rw [List.length_map]; exact hl) hls hstk (hroom _) hd ⟨hc, hs⟩)
end
end CALL
