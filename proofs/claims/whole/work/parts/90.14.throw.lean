/-! Texts; throws; what an instruction keeps -/
section THROW
variable {p : Program} {l : Launch} {e : Env} {R : Room} {s : State} {m : MethodId} {args : Array Value} {below : List Frame} {meth : Method} {c : Code} {H : Heap} {locs : List Loc} {cells slots : Nat} {Q : State → Prop}
variable {mc ms : Nat} {free : Addr → Prop} {ls : Array Slot} {st0 rest : List Value}
variable {Qc : Array Value → State → Outcome → State → Prop} {XC : String → State → State → Prop}
-- as the printed vx_throwSW, but it says more of what is there behind the throw: one cell more, the exception
theorem s_throwSW {cc : ByteArray} {pc : Nat} (hexec : p.tables.exec = Jvm.exec) (hb : c.code = cc) (hl : l.stackTraces = false) {own cls text : String} {names : List String} {ik is ic mc ms sa : Nat} {A : Nat → Prop}
    (hown : s.vm.findClass own = some m.cls) (hcls : Bundle.fit cls = true) (hnames : ∀ n ∈ names, Bundle.fit n = true)
    (hk : (Cond.classLink own ik cls).before args s = true) (hini : (Cond.initialized cls).before args s = true) (hstr : vk_R own is text sa s) (hat : ∀ w ∈ vx_atS own ic cls names, w.before args s = true)
    (hgood : ∀ w ∈ Cond.classLink own ik cls :: Cond.initialized cls :: vx_atS own ic cls names, vx_ot w = true)
    (hU : vx_Zq Bundle.tN "UNASSIGNED_STACK" Bundle.steD A s s.heap) (hN : vx_Zq Bundle.tN "SUPPRESSED_SENTINEL" Bundle.listD A s s.heap) (hS : va_S A s.heap H locs) (hsize : ls.size = c.maxLocals)
    (d0 : decode cc pc = .ok (.new ik, 3)) (d3 : decode cc (pc + 3) = .ok (.dup, 1)) (d4 : decode cc (pc + 4) = .ok (.ldc_w is, 3)) (d7 : decode cc (pc + 7) = .ok (.invokespecial ic, 3)) (d10 : decode cc (pc + 10) = .ok (.athrow, 1))
    (hout : ∀ x ∈ c.exceptionTable.toList, covers x (pc + 10) = false)
    (hRframes : names.length + 3 < R.frames) (hRlocals : (rest.map fun v => v.category).sum + (13 * (names.length + 1) + 43) ≤ R.locals) (hRcells : cells + 1 ≤ R.cells) (hRslots : slots + 6 ≤ R.slots) (hlocks : meth.locks = false)
    (hx : ∀ (t : State) (ce : Cell), s.vm.Alike t.vm → t.heap.size = H.size + 1 → (∀ q : Nat, q < H.size → t.heap[q]? = H[q]?) → t.heap[H.size]? = some ce → ce.vm = .none → s.vm.findClass cls = some ce.cls → XC cls s t)
    (hf : ∀ z ∈ locs, free z.base) (hc : cells + 1 ≤ mc) (hs : slots + 6 ≤ ms) :
    W p l e R s m args below meth c H locs cells slots (vx_MQ below Qc XC args s mc ms free) (F0 m pc ls rest) := by
  intro T hT X
  have htr : e.platform.stackTraces = false := (show e.platform.stackTraces = l.stackTraces by rw [X.admits.platform]).trans hl
  have Y := vx_rebase X (R' := { frames := R.frames, locals := R.locals, cells := 1, slots := 6 }) (Nat.le_refl _) (Nat.le_refl _) hRcells hRslots
  obtain ⟨s', hA⟩ : ∃ z, z = (T.setVm s.vm).setFrames (.invoking m args :: below) := ⟨_, rfl⟩
  rw [← hA] at Y
  have hvm : s'.vm = s.vm := by rw [hA]; rfl
  have hhp : s'.heap = H := by rw [hA]; exact hT
  have hW0 : s.WarmedH s'.vm := by rw [hvm]; exact State.WarmedH.refl s
  have hat' : ∀ w ∈ vx_atS own ic cls names, w.before args s' = true := fun w hw => vx_ot_at hW0 hvm.symm (hgood w (List.mem_cons_of_mem _ (List.mem_cons_of_mem _ hw))) (hat w hw)
  have hk' : (Cond.classLink own ik cls).before args s' = true := vx_ot_at hW0 hvm.symm (hgood _ List.mem_cons_self) hk
  have hini' : (Cond.initialized cls).before args s' = true := vx_ot_at hW0 hvm.symm (hgood _ (List.mem_cons_of_mem _ List.mem_cons_self)) hini
  have hU' : vx_Zq Bundle.tN "UNASSIGNED_STACK" Bundle.steD A s' s'.heap := by rw [hhp]; exact vx_Zq.moved hW0.alike (hU.kept hS.2.1)
  have hN' : vx_Zq Bundle.tN "SUPPRESSED_SENTINEL" Bundle.listD A s' s'.heap := by rw [hhp]; exact vx_Zq.moved hW0.alike (hN.kept hS.2.1)
  have h : ∀ w ∈ Bundle.ownAtoms own ic cls names, w.before args s' = true := vx_own hat' (vx_isRefq hU'.1) (vx_isRefq hN'.1) hU'.2.word hN'.2.word
  have hown' : s'.vm.findClass own = some m.cls := by rw [hvm]; exact hown
  have hins : (Cond.instantiable cls 6).before args s' = true := h _ (by simp [Bundle.ownAtoms])
  obtain ⟨vm₁, cX, kX, hfX, hkX, -, -, X₁, st1⟩ := Y.newCold hexec (own := own) (C := cls) (index := ik) (n := 6) hown' hk' hins hini'
    (g := F0 m pc ls rest) rfl (by rw [hb]; exact d0) (Nat.le_refl _) (Nat.le_refl _)
  generalize hT1 : (T.setVm vm₁).pushCell { cls := cX, slots := kX.instanceTypes.map defaultValue, vm := .none } = T1 at X₁ st1
  have hcat : (Value.ref T.heap.size).category = 1 := rfl
  have hcellA : T1.heap[T.heap.size]? = some (freshCell cX kX) := by rw [← hT1]; exact State.heap_pushCell_size _ _
  have d3' : decode c.code (pc + 3) = .ok (.dup, 1) := by rw [hb]; exact d3
  have d4' : decode c.code (pc + 4) = .ok (.ldc_w is, 3) := by rw [hb]; exact d4
  have hstr' : vk_R own is text sa s' := vk_R.warm hW0 hstr
  obtain ⟨U, hsteps, hrun, hend, hW, hsame, ce, hce, hO⟩ := X₁.ctorThrowS hexec htr (own := own) (cls := cls) (names := names) (ic := ic) hown' hcls hnames h (fun x hx => nomatch hx) hfX hkX hcellA (by rw [hhp, hT]; exact Nat.le_refl _) (msg := .ref sa) rfl
    (g := { method := m, pc := pc + 7, locals := ls, stack := .ref sa :: .ref T.heap.size :: .ref T.heap.size :: rest, locked := none }) rfl hsize rfl rfl (rest := rest) rfl
    (by rw [hb]; exact d7) (by rw [hb]; exact d10) hout hRframes (by simp only [List.map_cons, List.sum_cons, hcat]; omega) hlocks
  obtain ⟨f1, f2⟩ := vx_frame hsame
  rw [hhp] at f1 f2
  have hWs : s.WarmedH U.vm := State.WarmedH.trans hW0 hW
  have hcl : s.vm.findClass cls = some ce.cls := by
    have h9 := hO.cls
    rw [hvm] at h9
    exact h9
  have hall : s.sameButNew ({ U with vm := s.vm } : State) locs mc ms := by
    subst hA
    obtain ⟨e1, e2⟩ := hsame
    rw [State.setFrames_setFrames] at e1
    have h2 : (T.setVm s.vm).sameButNew ({ U with vm := s.vm } : State) [] (0 + 1) (0 + 6) := ⟨e1, e2⟩
    have h3 := X.same.trans h2
    rw [List.append_nil] at h3
    exact h3.mono hc hs
  have hsz9 : U.heap.size = H.size + 1 := by
    have h8 : U.heap.size ≤ s'.heap.size + (0 + 1) := hsame.2.2.1
    have h9 := (Array.getElem?_eq_some_iff.mp hce).1
    rw [hhp] at h8
    rw [hT] at h9
    omega
  refine ⟨U, ?_, .threw T.heap.size, hrun, hend, Or.inr ⟨T.heap.size, rfl, cls, ce, locs, hx U ce hWs.alike hsz9 (fun q hq => f2 q hq (fun z hz => nomatch hz)) (by rw [← hT]; exact hce) hO.vm hcl, hce, hO.vm, hcl, hWs, hall, hf⟩⟩
  refine st1 _ ?_
  show Steps p.tables e below (T1.setTop { method := m, pc := pc + 3, locals := ls, stack := .ref T.heap.size :: rest, locked := none }) _
  jvm_step X₁.here [X₁.here.top, hexec, d3', Value.category]
  exact X₁.ldcStringW hexec (own := own) (text := text) (index := is) (a := sa) hown' hstr'.1 hstr'.2
    (g := { method := m, pc := pc + 4, locals := ls, stack := .ref T.heap.size :: .ref T.heap.size :: rest, locked := none }) rfl d4' _ hsteps
end THROW
section KEEPS
/-- an instruction that goes on keeps the number of locals, and cells are never fewer -/
def k_ok (r : Option AOut) (L : List Value) (h : AH) : Prop := ∀ x, r = some x → match x with
  | .inl y => y.2.1.length = L.length ∧ h.length ≤ y.2.2.2.length ∧ a_hsz h ≤ a_hsz y.2.2.2
  | .inr (.inl y) => h.length ≤ y.2.length ∧ a_hsz h ≤ a_hsz y.2
  | .inr (.inr _) => True
theorem k_none {L : List Value} {h : AH} : k_ok none L h := fun x hx => by cases hx
theorem k_call {L : List Value} {h : AH} {z : Nat × List Value × List Value} : k_ok (some (.inr (.inr z))) L h := fun x hx => by cases hx; trivial
theorem k_ret {L : List Value} {h : AH} {v : Option Value} : k_ok (some (.inr (.inl (.inl v, h)))) L h := fun x hx => by cases hx; exact ⟨Nat.le_refl _, Nat.le_refl _⟩
theorem k_thr {L : List Value} {h : AH} {x : Nat} {c : AC} : k_ok (some (.inr (.inl (.inr x, h ++ [c])))) L h := fun y hy => by
  cases hy
  refine ⟨by simp, ?_⟩
  show a_hsz h ≤ a_hsz (h ++ [c])
  rw [a_hsz_app]
  omega
theorem k_go {o : Nat} {L st : List Value} {h : AH} : k_ok (a_go o L st h) L h := fun x hx => by cases hx; exact ⟨rfl, Nat.le_refl _, Nat.le_refl _⟩
theorem k_to {o : Nat} {L st : List Value} {h : AH} : k_ok (a_to o L st h) L h := fun x hx => by cases hx; exact ⟨rfl, Nat.le_refl _, Nat.le_refl _⟩
theorem k_br {b : Bool} {o t : Nat} {L st : List Value} {h : AH} : k_ok (a_br b o t L st h) L h := by unfold a_br; split; exact k_to; exact k_go
theorem k_ld {o : Nat} {v : Option Value} {L st : List Value} {h : AH} : k_ok (a_ld o v L st h) L h := by unfold a_ld; split; exact k_go; exact k_none
theorem k_st1 {o j : Nat} {v : Value} {L st : List Value} {h : AH} : k_ok (a_sto o (a_st1 L j v) st h) L h := by
  unfold a_st1
  split
  · intro x hx
    cases hx
    exact ⟨List.length_set, Nat.le_refl _, Nat.le_refl _⟩
  · exact k_none
theorem k_st2 {o j : Nat} {v : Value} {L st : List Value} {h : AH} : k_ok (a_sto o (a_st2 L j v) st h) L h := by
  unfold a_st2
  split
  · intro x hx
    cases hx
    exact ⟨by simp, Nat.le_refl _, Nat.le_refl _⟩
  · exact k_none
theorem k_set {o r : Nat} {c c' : AC} {L st : List Value} {h : AH} (hr : h[r]? = some c) (hs : a_sz c' = a_sz c) : k_ok (a_go o L st (h.set r c')) L h := fun x hx => by
  cases hx
  refine ⟨rfl, by simp, ?_⟩
  show a_hsz h ≤ a_hsz (h.set r c')
  rw [a_hsz_set c c' hs h r hr]
  exact Nat.le_refl _
theorem k_app {o : Nat} {c : AC} {L st : List Value} {h : AH} : k_ok (a_go o L st (h ++ [c])) L h := fun x hx => by
  cases hx
  refine ⟨rfl, by simp, ?_⟩
  show a_hsz h ≤ a_hsz (h ++ [c])
  rw [a_hsz_app]
  omega
theorem k_acall {mi n : Nat} {L st : List Value} {h : AH} : k_ok (a_call mi n st) L h := by unfold a_call; split; exact k_call; exact k_none
set_option maxHeartbeats 4000000 in
theorem k_step (sc : Nat × (Nat → Int32)) (o : Nat) (i : Instr) (ps : List Nat) (L st : List Value) (h : AH) : k_ok (a_step sc o i ps L st h) L h := by
  unfold a_step
  split
  all_goals (try unfold a_stI) ; (try unfold a_stA) ; (try unfold a_stL) ; (try unfold a_i2) ; (try unfold a_i2d) ; (try unfold a_l2) ; (try unfold a_l2d) ; (try unfold a_lsh) ; (try unfold a_getf) ; (try unfold a_putf) ; (try unfold a_iald) ; (try unfold a_lald) ; (try unfold a_aald) ; (try unfold a_iast) ; (try unfold a_last) ; (try unfold a_aast) ; (try unfold a_alen) ; (try unfold a_callV) ; (try unfold a_callI) ; (try unfold a_slen) ; (try unfold a_sat)
  all_goals repeat' (first | exact k_none | exact k_go | exact k_to | exact k_br | exact k_ld | exact k_st1 | exact k_st2 | exact k_app | exact k_acall | exact k_ret | exact k_thr | (apply k_set; assumption; rfl) | split | unfold a_newa | unfold a_m2 | unfold a_cpi | unfold a_cpl | unfold a_slen | unfold a_sat | unfold a_callV | unfold a_callI | unfold a_getf | unfold a_putf)
end KEEPS
section TEXT
variable {p : Program} {l : Launch} {e : Env} {R : Room} {s : State} {m : MethodId} {args : Array Value} {below : List Frame} {meth : Method} {c : Code} {H : Heap} {locs : List Loc} {cells slots : Nat} {Q : State → Prop} {G : AG} {sc : Nat × (Nat → Int32)} {q : AM} {pc : Nat} {ls : Array Slot} {rest : List Value}
theorem v_sub {own : String} {z : Nat} {y : MethodName} {C : String} {cw : Cond} (h1 : Cond.methodLink own z y ∈ a_Ts) (h2 : Cond.instanceMethod y ∈ a_Ts) (h3 : Cond.selects C y y ∈ a_Ts) (h4 : Cond.initialized C ∈ a_Ts) (hc : cw ∈ a_Ts) : ∀ w ∈ wsV own z C y (cw :: a_Ts), w ∈ a_Ts := by
  intro w hw
  unfold wsV at hw
  rcases List.mem_append.mp hw with hw | hw
  · simp only [List.mem_cons, List.not_mem_nil, or_false] at hw
    rcases hw with rfl | rfl | rfl | rfl
    · exact h1
    · exact h2
    · exact h3
    · exact h4
  · rcases List.mem_cons.mp hw with rfl | hw
    · exact hc
    · exact hw
theorem v_slen (M : g_M l G sc q p s m args meth c) {z i : Nat} (hi : i < 27) (hd : decode q.2.1 pc = .ok (.invokevirtual z, 3)) (hw : Cond.methodLink q.2.2.2.2.1 z yJ0_length_8abf5 ∈ a_Ts) (hS : va_S (g_A G) s.heap H locs) (hml : c.maxLocals = ls.size) (hRf : 8 ≤ R.frames) (hRl : 150 ≤ R.locals) (hc : cells ≤ R.cells) (hs : slots ≤ R.slots) (hcat : (rest.map fun v => v.category).sum ≤ 8)
    (kk : W p l e R s m args below meth c H locs cells slots Q (F0 m (pc + 3) ls (.int (Int32.ofNat (a_txt i).length) :: rest))) : W p l e R s m args below meth c H locs cells slots Q (F0 m pc ls (.ref (G.2.1 i) :: rest)) := by
  obtain ⟨hx, hb, hr, hml0, hown, hts, hlocks, hin, htab, hK, hX, hbase⟩ := M
  obtain ⟨av, hR, hS1⟩ := hX.1 i hi
  have hT : t_X (g_A G) (G.2.1 i) av (a_txt i) s s.heap := ⟨hS1, hX.2.2.1.1, hX.2.2.1.2⟩
  exact t_call (va_runV (As := []) (rest := rest) (b := G.2.1 i) (C := RJ0) ⟨hx, hb, hml, hown, hts⟩ (k_length l (g_A G) (G.2.1 i) av (a_txt i)) (cwV 0 hts (a_Ts_ok _ (v_sub hw (k_in (by simp)) (k_in (by simp)) (k_in (by simp)) (k_in (by simp)))) rfl rfl rfl (by decide +kernel) ⟨by show 1 + 1 ≤ R.frames; omega, by show 8 + (1 + 11) + 20 ≤ R.locals; omega⟩) ⟨t_blind, vk_recv hS1 (i := 0) (by omega) hS, fun U hU hW => ⟨rfl, hT.warm hW (fun a ha hna => by rw [hU]; exact hS.2.1 a ha hna)⟩⟩ rfl rfl rfl rfl (lv_room hcat) hd ⟨hc, hs⟩) kk
theorem v_sat (M : g_M l G sc q p s m args meth c) {z i : Nat} {k : Int32} (hi : i < 27) (hk : vp_in k (a_txt i).length) (hd : decode q.2.1 pc = .ok (.invokevirtual z, 3)) (hw : Cond.methodLink q.2.2.2.2.1 z yJ0_charAt_5068e ∈ a_Ts) (hS : va_S (g_A G) s.heap H locs) (hml : c.maxLocals = ls.size) (hRf : 8 ≤ R.frames) (hRl : 150 ≤ R.locals) (hc : cells ≤ R.cells) (hs : slots ≤ R.slots) (hcat : (rest.map fun v => v.category).sum ≤ 8)
    (kk : W p l e R s m args below meth c H locs cells slots Q (F0 m (pc + 3) ls (.int (Int32.ofNat ((a_txt i).getD k.toNatClampNeg 0)) :: rest))) : W p l e R s m args below meth c H locs cells slots Q (F0 m pc ls (.int k :: .ref (G.2.1 i) :: rest)) := by
  obtain ⟨hx, hb, hr, hml0, hown, hts, hlocks, hin, htab, hK, hX, hbase⟩ := M
  obtain ⟨av, hR, hS1⟩ := hX.1 i hi
  have hT : t_X (g_A G) (G.2.1 i) av (a_txt i) s s.heap := ⟨hS1, hX.2.2.1.1, hX.2.2.1.2⟩
  have hlt : k.toNatClampNeg < (a_txt i).length := Nat.not_le.mp fun z => hk (Or.inr z)
  have hlen : ∀ i, i < 27 → (a_txt i).length < 100 := by decide +kernel
  have hk2 : k < Int32.ofNat (a_txt i).length := by
    have h1 := (vp_in_iff.mp hk).2
    have h2 := hlen i hi
    rw [Int32.lt_iff_toInt_lt]
    have h3 : (Int32.ofNat (a_txt i).length).toInt = ((a_txt i).length : Int) := nI_toInt (n := (a_txt i).length) (by omega)
    rw [h3]
    exact h1
  have hb8 : (a_txt i).getD k.toNatClampNeg 0 < 128 := by
    rw [List.getD_eq_getElem?_getD, List.getElem?_eq_getElem hlt]
    exact t_txt i hi _ (List.getElem_mem ..)
  exact t_call (va_runV (As := [.int k]) (rest := rest) (b := G.2.1 i) (C := RJ0) ⟨hx, hb, hml, hown, hts⟩ (k_charAt l (g_A G) (G.2.1 i) av (a_txt i) hk hk2 hb8) (cwV 1 hts (a_Ts_ok _ (v_sub hw (k_in (by simp)) (k_in (by simp)) (k_in (by simp)) (k_in (by simp)))) rfl rfl rfl (by decide +kernel) ⟨by show 3 + 1 ≤ R.frames; omega, by show 8 + (2 + 11) + 64 ≤ R.locals; omega⟩) ⟨t_blind, vk_recv hS1 (i := 0) (by omega) hS, fun U hU hW => ⟨rfl, hT.warm hW (fun a ha hna => by rw [hU]; exact hS.2.1 a ha hna)⟩⟩ rfl rfl rfl rfl (lv_room hcat) hd ⟨hc, hs⟩) kk
end TEXT
