/-! What the small machine does, the JVM does -/
section MAIN
section
variable {p : Program} {l : Launch} {e : Env} {R : Room} {s : State} {m : MethodId} {args : Array Value} {below : List Frame} {meth : Method} {c : Code} {H : Heap} {locs : List Loc} {cells slots mc ms : Nat} {Q : State → Prop} {G : AG} {sc : Nat × (Nat → Int32)} {q : AM} {pc : Nat} {h h1 : AH} {ls : Array Slot}
/-- the call throws -/
theorem s_callthr {i : Instr} {z d : Nat} {qj : AM} {wj : Nat × Nat × Nat} {cdj : List AI} {mlj : Nat} {vs rs : List Value} {x : Nat} (M : g_M l G sc q p s m args meth c) (hoj : o_meth qj wj cdj mlj = true) (hd : decode q.2.1 pc = .ok (i, 3)) (hiv : i = .invokevirtual z) (ht : g_tgt q.2.2.2.2.1 z i h vs qj wj.2.2)
    (hMet : vx_Met l qj.1 (a_cw qj :: a_Ts) (g_rm d (h1.length - h.length) (a_hsz h1 - a_hsz h)) (g_Pc l G sc vs h) (g_Q G (.inr x) h1) (g_XC G (.inr x) h1) (h1.length - h.length) (a_hsz h1 - a_hsz h) (g_A G))
    (hcat : a_cat rs ≤ 8) (hRf : d + 1 + 8 ≤ R.frames) (hRl : 60 * (d + 1) + 150 ≤ R.locals) (hc : cells + (h1.length - h.length) ≤ R.cells) (hs : slots + (a_hsz h1 - a_hsz h) ≤ R.slots) (hP : g_P G h H) (hls : ls.size = q.2.2.1) (hS : va_S (g_A G) s.heap H locs) (hH : H.size = G.1 + h.length)
    (kk : ∀ (H' : Heap) (locs' : List Loc) (y : Addr) (ce : Cell), x < 2 → g_P G h1 H' → H'.size = G.1 + h1.length → va_S (g_A G) s.heap H' locs' → H'[y]? = some ce → ce.vm = .none → s.vm.findClass (a_ex x) = some ce.cls → vx_W p l e R s m args below meth c H' locs' (cells + (h1.length - h.length)) (slots + (a_hsz h1 - a_hsz h)) Q (F0 m pc ls (rs.map (g_v G))) y) :
    W p l e R s m args below meth c H locs cells slots Q (F0 m pc ls ((vs.reverse ++ rs).map (g_v G))) := by
  obtain ⟨c1, c2, c3, c4, c5, c6, c7, c8, -, -⟩ := g_cw_in hoj
  have S : CallFix p m c q.2.1 q.2.2.1 s args a_Ts q.2.2.2.2.1 := ⟨M.1, M.2.1, M.2.2.2.1, M.2.2.2.2.1, M.2.2.2.2.2.1⟩
  have hts := M.2.2.2.2.2.1
  have hrm : (g_rm d (h1.length - h.length) (a_hsz h1 - a_hsz h)).frames + 1 ≤ R.frames ∧ 8 + (qj.2.2.1 + 11) + (g_rm d (h1.length - h.length) (a_hsz h1 - a_hsz h)).locals ≤ R.locals := ⟨by show d + 8 + 1 ≤ R.frames; omega, by show 8 + (qj.2.2.1 + 11) + (60 * d + 150) ≤ R.locals; omega⟩
  rcases ht with ⟨rfl, hhh, rc, vs', ci, fs, C, rfl, hl, hcell, hC, hcls, w1, w2, w3⟩ | ⟨rfl, hl, w1, w2⟩ | ⟨rfl, hhh, hnm, hrt, ⟨rc, vs', rfl, hl⟩, w1, w2⟩
  · refine w_callx (rest := rs.map (g_v G)) (vx_runV (As := vs'.map (g_v G)) (b := G.1 + rc) (C := C.1) (rest := rs.map (g_v G)) S hMet (cwV wj.2.2 hts (a_Ts_ok _ (g_sub c1 ?_)) (by rw [g_cwc hhh]) rfl rfl ⟨hcls, c6.1, c6.2, c7⟩ hrm) ⟨g_Pc_blind, ?_, g_pre M hP hS hH rfl⟩ rfl (by rw [List.length_map]; exact hl) hls ?_ ?_ hd ⟨hc, hs⟩) (fun _ _ _ hq => hq) ?_
    · intro w hw
      simp only [List.mem_cons, List.not_mem_nil, or_false] at hw
      rcases hw with rfl | rfl | rfl | rfl
      · exact w1
      · exact w2
      · exact w3
      · rw [← hcls]; exact c8
    · exact va_recv M.2.2.2.2.2.2.2.2.2.1 hP (ci := ci) (q0 := rc) hC (g_at G hcell)
    · show ((Value.ref rc :: vs').reverse ++ rs).map (g_v G) = _
      simp [g_v]
    · rw [g_cats]
      have : (F0 m pc ls (((Value.ref rc :: vs').reverse ++ rs).map (g_v G))).monitorRoom = 0 := rfl
      omega
    · intro y st₀ t locs' E ce e0 hq hce hcv hcl hlocs
      obtain ⟨f1, rfl, f3, f4, f5, f6⟩ := hq
      rw [e0] at f5 f6
      exact kk t.heap locs' y ce f1 f4 f3 ⟨Nat.le_trans hS.1 f5, fun a ha hna => by rw [f6 a (Nat.lt_of_lt_of_le ha hS.1) hna]; exact hS.2.1 a ha hna, fun z hz => (hlocs z hz).elim (hS.2.2 z) id⟩ hce hcv hcl
  · cases hiv
  · cases hiv
theorem g_st_un {ls' : Array Slot} {L : List Value} {j : Nat} {w : Value} (h : lv_has ls' L.length ((j, w) :: (g_lv G L).filter (fun q => !(q.1 == j) && !(q.1 + 1 == j && q.2.category == 2)))) (hpl : a_pl L j = false) : g_L G ls' (L.set j a_un) := by
  refine ⟨by rw [List.length_set]; exact h.1, h.2.1, fun i v hi hne => ?_⟩
  rw [List.getElem?_set] at hi
  split at hi
  · split at hi
    · cases hi
      exact absurd rfl hne
    · cases hi
  · rename_i hji
    refine h.2.2 (i, g_v G v) (List.mem_cons_of_mem _ (List.mem_filter.mpr ⟨g_lv_mem.mpr ⟨v, hi, hne, rfl⟩, ?_⟩))
    simp only [Bool.and_eq_true, Bool.not_eq_true', Bool.and_eq_false_iff, beq_eq_false_iff_ne, ne_eq]
    refine ⟨fun e => hji e.symm, ?_⟩
    by_cases hx : i + 1 = j
    · subst hx
      exact Or.inr (by rw [g_cat]; exact g_pl hpl hi)
    · exact Or.inl hx
/-- a handler's row that covers takes its exception; then the store -/
theorem g_catch {cd : List AI} {o g j x : Nat} {L : List Value} {rs : List Value} {y : Addr} {ce : Cell} {ei : AI} (M : g_M l G sc q p s m args meth c) (hall : o_all q.2.2.2.2.1 q.2.1 q.2.2.2.1 (decide (q.1.name = "<init>")) cd 0 cd = true) (hei : cd[o]? = some ei) {hs : List AHd} (hh : o_hd q.2.2.2.2.1 cd q.2.2.2.2.2 hs = true) (hf : a_find o x hs = some (g, j)) (hx2 : x < 2) (hpl : a_pl L j = false) (hj : j < L.length) (hL : g_L G ls L) (hce : H[y]? = some ce) (hcv : ce.vm = .none) (hcl : s.vm.findClass (a_ex x) = some ce.cls)
    (kk : ∀ ls', g_L G ls' (L.set j a_un) → W p l e R s m args below meth c H locs cells slots Q (F0 m (p_pc cd g) ls' [])) : vx_W p l e R s m args below meth c H locs cells slots Q (F0 m (p_pc cd o) ls (rs.map (g_v G))) y := by
  obtain ⟨hx, hb, hr, hml, hown, hts, hlocks, hin, htab, hK, hX, hbase⟩ := M
  have olt : o < cd.length := (List.getElem?_eq_some_iff.mp hei).1
  have one : ∀ (w : Nat × Nat × Nat × Nat) (a : AHd), o_hd1 q.2.2.2.2.1 cd w a = true → (covers ⟨w.1, w.2.1, w.2.2.1, w.2.2.2⟩ (p_pc cd o) = decide (a.1 ≤ o ∧ o < a.2.1)) ∧ w.2.2.2 ≠ 0 ∧ Cond.classLink q.2.2.2.2.1 w.2.2.2 (a_ex a.2.2.2.2) ∈ a_Ts ∧ Cond.castable (a_ex a.2.2.2.2) (a_ex a.2.2.2.2) ∈ lw_tbl ∧ (a.2.2.2.1 = j → a.2.2.1 = g → W p l e R s m args below meth c H locs cells slots Q (F0 m w.2.2.1 ls [.ref y])) := by
    intro w a h1
    simp only [o_hd1, Bool.and_eq_true, decide_eq_true_eq] at h1
    obtain ⟨⟨⟨⟨⟨⟨k1, k2⟩, k3⟩, k4⟩, k5⟩, k6⟩, k7⟩ := h1
    have k8 := List.all_eq_true.mp k1 o (List.mem_range.mpr olt)
    simp only [beq_iff_eq] at k8
    refine ⟨k8.symm, k3, List.mem_filter.mpr ⟨k4, rfl⟩, k5, fun ej eg => ?_⟩
    split at k7
    · rename_i e9 he9
      obtain ⟨pc9, i9, len9, ps9⟩ := e9
      simp only [Bool.and_eq_true, decide_eq_true_eq] at k7
      obtain ⟨⟨m1, m2⟩, m3⟩ := k7
      have hok := o_all_at cd 0 _ _ hall he9
      subst eg
      subst ej
      rw [← m1]
      split at m3
      · rename_i k
        simp only [Bool.and_eq_true, decide_eq_true_eq] at m3
        obtain ⟨m3, rfl⟩ := m3
        simp only [o_ok, Bool.and_eq_true, decide_eq_true_eq] at hok
        refine lv_astore_n hx hb hok.1 m3 hL.has hj rfl (fun ls' hl' => ?_)
        have := kk ls' (g_st_un hl' hpl)
        rw [m2] at this
        exact this
      · rename_i k
        simp only [Bool.and_eq_true, decide_eq_true_eq] at m3
        obtain ⟨rfl, rfl⟩ := m3
        simp only [o_ok, Bool.and_eq_true, decide_eq_true_eq] at hok
        refine lv_astore hx hb hok.1 hL.has hj rfl (fun ls' hl' => ?_)
        have := kk ls' (g_st_un hl' hpl)
        rw [m2] at this
        exact this
      · cases m3
    · cases k7
  unfold o_hd at hh
  split at hh
  · simp [a_find] at hf
  · rename_i w a e1
    obtain ⟨b1, b2, b3, b4, b5⟩ := one w a hh
    simp only [a_find] at hf
    split at hf
    · rename_i hc
      cases hf
      obtain ⟨f1, f2, f3⟩ := hc
      subst f3
      refine vx_catch (own := q.2.2.2.2.1) (name := a_ex a.2.2.2.2) hown [] ⟨w.1, w.2.1, w.2.2.1, w.2.2.2⟩ [] (by rw [htab, e1]; rfl) (fun _ hz => by cases hz) (by rw [b1]; exact decide_eq_true ⟨f1, f2⟩) b2 (hts _ b3) (va_Nw.use rfl (hX.2.2.2.1.2.2.1 _ _ b4)) hce hcv hcl (b5 rfl rfl)
    · cases hf
  · rename_i w w2 a a2 e1
    simp only [Bool.and_eq_true, decide_eq_true_eq] at hh
    obtain ⟨⟨⟨hh1, hh2⟩, ha1⟩, ha2⟩ := hh
    obtain ⟨b1, b2, b3, b4, b5⟩ := one w a hh1
    obtain ⟨d1, d2, d3, d4, d5⟩ := one w2 a2 hh2
    simp only [a_find] at hf
    split at hf
    · rename_i hc
      cases hf
      obtain ⟨f1, f2, f3⟩ := hc
      subst f3
      refine vx_catch (own := q.2.2.2.2.1) (name := a_ex a.2.2.2.2) hown [] ⟨w.1, w.2.1, w.2.2.1, w.2.2.2⟩ [⟨w2.1, w2.2.1, w2.2.2.1, w2.2.2.2⟩] (by rw [htab, e1]; rfl) (fun _ hz => by cases hz) (by rw [b1]; exact decide_eq_true ⟨f1, f2⟩) b2 (hts _ b3) (va_Nw.use rfl (hX.2.2.2.1.2.2.1 _ _ b4)) hce hcv hcl (b5 rfl rfl)
    · rename_i hno
      split at hf
      · rename_i hc
        cases hf
        obtain ⟨f1, f2, f3⟩ := hc
        subst f3
        refine vx_catch (own := q.2.2.2.2.1) (name := a_ex a2.2.2.2.2) hown [⟨w.1, w.2.1, w.2.2.1, w.2.2.2⟩] ⟨w2.1, w2.2.1, w2.2.2.1, w2.2.2.2⟩ [] (by rw [htab, e1]; rfl) (fun z hz => ?_) (by rw [d1]; exact decide_eq_true ⟨f1, f2⟩) d2 (hts _ d3) (va_Nw.use rfl (hX.2.2.2.1.2.2.1 _ _ d4)) hce hcv hcl (d5 rfl rfl)
        simp only [List.mem_cons, List.not_mem_nil, or_false] at hz
        subst hz
        refine Or.inr ⟨b2, a_ex a.2.2.2.2, hts _ b3, ?_⟩
        rw [ha1, ha2]
        exact hX.2.2.2.2.1.2
      · cases hf
  · cases hh
end
theorem a_ms_rx : (a_ms.all fun q => decide (q.2.2.2.2.1 = RX11 → q.2.2.2.2.2 = [])) = true := by decide +kernel
set_option maxHeartbeats 1000000 in
theorem s_run (l : Launch) (G : AG) (sc : Nat × (Nat → Int32)) (hA : g_all) : ∀ (n d mi o : Nat) (L st : List Value) (h : AH) (r : Option Value ⊕ Nat) (h' : AH), a_run sc n d mi (a_code mi) o L st h = some (r, h') → (h.length ≤ h'.length ∧ a_hsz h ≤ a_hsz h') ∧ g_Body l G sc d mi o L st h r h' := by
  intro n
  induction n with
  | zero =>
    intro d mi o L st h r h' hrun
    simp [a_run] at hrun
  | succ n ih =>
    intro d mi o L st h r h' hrun
    rw [a_run] at hrun
    split at hrun
    · cases hrun
    · rename_i ei hei
      obtain ⟨pc, ins, len, ps⟩ := ei
      have hpc : p_pc (a_code mi) o = pc := by unfold p_pc; rw [hei]
      have hoi : ∀ q, g_ok mi q → o_ok q.2.2.2.2.1 q.2.1 q.2.2.2.1 (decide (q.1.name = "<init>")) (a_code mi) o (pc, ins, len, ps) = true := fun q hq => by
        have := o_all_at (a_code mi) 0 o _ hq.1 hei
        rwa [Nat.zero_add] at this
      have hks := k_step sc o ins ps L st h
      simp only at hrun
      split at hrun
      · cases hrun
      · rename_i o1 L1 st1 h1 hst
        have hk := hks _ hst
        simp only at hk
        obtain ⟨⟨i1, i2⟩, i3⟩ := ih d mi o1 L1 st1 h1 r h' hrun
        refine ⟨⟨by omega, by omega⟩, ?_⟩
        intro q hq hok p e R s m args below meth c h0 z0 M hf hl hc hs hsz H locs ls cells slots ec es hP hL hLn hS
        rw [hpc]
        refine s_next M (hoi q hok) hst hP hL hLn hS (by omega) (by omega) (by omega) (by omega) (by omega) ?_
        intro H' locs' ls' c' s' hP' hL' hS' ec' es'
        exact i3 q hq hok p e R s m args below meth c h0 z0 M hf hl hc hs hsz H' locs' ls' c' s' (by omega) (by omega) hP' hL' (by rw [hk.1]; exact hLn) hS'
      · rename_i r1 hst
        cases hrun
        have hk := hks _ hst
        simp only at hk
        refine ⟨hk, ?_⟩
        intro q hq hok p e R s m args below meth c h0 z0 M hf hl hc hs hsz H locs ls cells slots ec es hP hL hLn hS
        rw [hpc]
        cases r with
        | inl v => exact s_end M (hoi q hok) hst hP hS hsz ec es
        | inr x => exact s_thr M (hoi q hok) (of_decide_eq_true (List.all_eq_true.mp a_ms_rx q (List.mem_of_getElem? hq))) hst hP hL hLn hS hsz ec es (by omega) (by omega) hc hs
      · rename_i mj vs rest hst
        split at hrun
        · cases hrun
        · rename_i d'
          split at hrun
          · rename_i hlay
            split at hrun
            · cases hrun
            · rename_i v hk hcal
              obtain ⟨⟨i1, i2⟩, i3⟩ := ih d' mj 0 _ [] h _ hk hcal
              obtain ⟨⟨j1, j2⟩, j3⟩ := ih (d' + 1) mi (o + 1) L (v.toList ++ rest) hk r h' hrun
              refine ⟨⟨by omega, by omega⟩, ?_⟩
              intro q hq hok p e R s m args below meth c h0 z0 M hf hl hc hs hsz H locs ls cells slots ec es hP hL hLn hS
              rw [hpc]
              obtain ⟨z, qj, w, t1, t2, t3, t4, t5, t6, t7, t8, t9⟩ := s_tgt (hoi q hok) hst
              obtain ⟨a1, a2⟩ := hA mj qj w t3 t1 t2
              refine w_size (fun hz => ?_)
              have hH := g_size hP hS M.2.2.2.2.2.2.2.2.2.2.2 hsz ec hz
              rw [t4]
              refine s_callret M a1 t8 t9 (g_met t1 a1 a2 hlay i1 i2 i3) t5 (by omega) (by omega) (by omega) (by omega) hP (by rw [hL.1, hLn]) hS hH ?_
              intro H' locs' hP' hS'
              have k := j3 q hq hok p e R s m args below meth c h0 z0 M hf hl hc hs hsz H' locs' ls (cells + (hk.length - h.length)) (slots + (a_hsz hk - a_hsz h)) (by omega) (by omega) hP' hL hLn hS'
              rw [t7] at k
              exact k
            · rename_i x hk hcal
              obtain ⟨⟨i1, i2⟩, i3⟩ := ih d' mj 0 _ [] h _ hk hcal
              split at hrun
              · rename_i z9
                split at hrun
                · rename_i hfnd
                  split at hrun
                  · rename_i hhand
                    cases hrun
                    refine ⟨⟨i1, i2⟩, ?_⟩
                    intro q hq hok p e R s m args below meth c h0 z0 M hf hl hc hs hsz H locs ls cells slots ec es hP hL hLn hS
                    rw [hpc]
                    obtain ⟨z, qj, w, t1, t2, t3, t4, t5, t6, t7, t8, t9⟩ := s_tgt (hoi q hok) hst
                    obtain ⟨a1, a2⟩ := hA mj qj w t3 t1 t2
                    refine w_size (fun hz => ?_)
                    have hH := g_size hP hS M.2.2.2.2.2.2.2.2.2.2.2 hsz ec hz
                    rw [t4]
                    have hz9 : z9 = z := by
                      rcases t9 with ⟨h9, -⟩ | ⟨h9, -⟩ | ⟨h9, -⟩
                      · cases h9; rfl
                      · cases h9
                      · cases h9
                    subst hz9
                    refine s_callthr M a1 t8 rfl t9 (g_met t1 a1 a2 hlay i1 i2 i3) t5 (by omega) (by omega) (by omega) (by omega) hP (by rw [hL.1, hLn]) hS hH ?_
                    intro H' locs' y ce hx2 hP' hH' hS' hce hcv hcl
                    have hno : c.exceptionTable.toList = [] := by
                      have h9 := hok.2
                      rw [hhand] at h9
                      rw [M.2.2.2.2.2.2.2.2.1]
                      unfold o_hd at h9
                      split at h9
                      · rename_i e1 e2; rw [e1]; rfl
                      · rename_i e1 e2; cases e2
                      · rename_i e1 e2; cases e2
                      · cases h9
                    have e1 : h'.length - h0 = cells + (h'.length - h.length) := by omega
                    have e2 : a_hsz h' - z0 = slots + (a_hsz h' - a_hsz h) := by omega
                    rw [e1, e2]
                    exact vx_out (E := a_ex x) (fun z hz => by rw [hno] at hz; cases hz) M.2.2.2.2.2.2.1 hce hcv hcl (fun t ht hal => ⟨hx2, rfl, by rw [ht]; exact hH', by rw [ht]; exact hP', hS'.F ht⟩) hS'.2.2 (Nat.le_refl _) (Nat.le_refl _)
                  · cases hrun
                · rename_i g j hfnd
                  split at hrun
                  · rename_i hpl
                    obtain ⟨⟨j1, j2⟩, j3⟩ := ih (d' + 1) mi g (L.set j a_un) [] hk r h' hrun
                    refine ⟨⟨by omega, by omega⟩, ?_⟩
                    intro q hq hok p e R s m args below meth c h0 z0 M hf hl hc hs hsz H locs ls cells slots ec es hP hL hLn hS
                    rw [hpc]
                    obtain ⟨z, qj, w, t1, t2, t3, t4, t5, t6, t7, t8, t9⟩ := s_tgt (hoi q hok) hst
                    obtain ⟨a1, a2⟩ := hA mj qj w t3 t1 t2
                    refine w_size (fun hz => ?_)
                    have hH := g_size hP hS M.2.2.2.2.2.2.2.2.2.2.2 hsz ec hz
                    rw [t4]
                    have hz9 : z9 = z := by
                      rcases t9 with ⟨h9, -⟩ | ⟨h9, -⟩ | ⟨h9, -⟩
                      · cases h9; rfl
                      · cases h9
                      · cases h9
                    subst hz9
                    refine s_callthr M a1 t8 rfl t9 (g_met t1 a1 a2 hlay i1 i2 i3) t5 (by omega) (by omega) (by omega) (by omega) hP (by rw [hL.1, hLn]) hS hH ?_
                    intro H' locs' y ce hx2 hP' hH' hS' hce hcv hcl
                    rw [← hpc]
                    refine g_catch M hok.1 hei hok.2 hfnd hx2 hpl.1 hpl.2 hL hce hcv hcl (fun ls' hL' => ?_)
                    exact j3 q hq hok p e R s m args below meth c h0 z0 M hf hl hc hs hsz H' locs' ls' (cells + (hk.length - h.length)) (slots + (a_hsz hk - a_hsz h)) (by omega) (by omega) hP' hL' (by rw [List.length_set]; exact hLn) hS'
                  · cases hrun
              · cases hrun
          · cases hrun
end MAIN
