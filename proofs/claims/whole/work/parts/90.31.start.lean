/-! THE CLAIM OUT OF ONE WALK OF THE LAW'S BODY. Your part is whole_start (and what it stands on); all else here is the same for every law, but numbers. -/
def R_law : String := "TownTrainLaw"
def lw_P (b : Addr) (xs : List Int32) (args : Array Value) (s : State) : Prop := args = #[.ref b] ∧ s.IntsAt b xs ∧ xs.length ≤ 3584 ∧ (Jvm.Cond.and given_1 narrow_1).before args s = true
def lw_Q (_ : Array Value) (s : State) (o : Outcome) (t : State) : Prop := o = .returned (some (.int 1)) ∧ Framed s o t [] 601024 7293034
def lw_Z (below : List Frame) (a : Array Value) (s : State) : State → Prop := fun t => ∃ o, t.status = .running ∧ Ended t below o ∧ lw_Q a s o t
/-- the law's own end, with 1 on the stack, nothing written that was there before, its room as the claim has it -/
theorem lw_ret {p : Program} {l : Launch} {e : Env} {s : State} {m : MethodId} {below : List Frame} {meth : Method} {c : Code} {b : Nat} (hx : p.tables.exec = Jvm.exec) (hb : c.code = code) (hr : meth.sig.returnType = ret) (hlocks : meth.locks = false) {pc : Nat} {H : Heap} {ls : Array Slot} (hdg : decode code pc = .ok (.ireturn, 1)) : W p l e room_1 s m #[Value.ref b] below meth c H [] 601024 7293034 (lw_Z below #[Value.ref b] s) (F0 m pc ls [.int 1]) := by
  intro T hT X
  obtain ⟨fs, hret, hrun, hended, hW, hframe⟩ := X.leave (v := some (.int 1)) (hlocks := hlocks) (fun h => by rw [hr] at h; cases h)
  have hmeth' : T.vm.method? m = some meth := X.method'
  refine ⟨T.setFrames fs, ?_, .returned (some (.int 1)), hrun, hended, rfl, ⟨_, rfl⟩, hW, hframe⟩
  jvm_step X.here [X.here.top, hx, hb, hdg, hmeth', hr, ret, narrow_b1]
  (try refine ⟨rfl, ?_⟩); (try refine ⟨rfl, ?_⟩)
  first | (intro acts; rw [hret _ acts rfl rfl rfl]) | rw [hret _ _ rfl rfl rfl]
  exact Steps.refl _
/-- what holds at the law's entry: the machine, the code, the tables' words (any of lw_tbl by 'hts w (by decide +kernel)'), the script of L ints xs at the cell b, what the Statement gives of the start (any of its parts by flat_of_before) -/
def lw_At (p : Program) (s : State) (m : MethodId) (meth : Method) (c : Code) (b L : Nat) (xs : Nat → Int32) : Prop :=
  p.tables.exec = Jvm.exec ∧ c.code = code ∧ meth.sig.returnType = ret ∧ c.maxLocals = 8 ∧ s.vm.findClass R_law = some m.cls ∧ (∀ w ∈ lw_tbl, w.before #[Value.ref b] s = true) ∧ va_X b L xs s s.heap ∧ b < s.heap.size ∧ meth.locks = false ∧ (Jvm.Cond.and given_1 narrow_1).before #[Value.ref b] s = true
/-- what is left to show: the small machine's own run of the law -/
def PureOk (sc : Nat × (Nat → Int32)) : Prop := ∃ n h', a_run sc n 100 324 (a_code 324) 0 (a_enter 8 [.float 1000]) [] [] = some (.inl (some (.int 1)), h') ∧ h'.length ≤ 601024 ∧ a_hsz h' ≤ 7293034
noncomputable def o_bs : List Cond → List Nat → Bool
  | w :: ws, j :: js => o_b j w && o_bs ws js
  | [], [] => true
  | _, _ => false
theorem o_bs_in : ∀ (ws : List Cond) (js : List Nat), o_bs ws js = true → ∀ w ∈ ws, w ∈ lw_tbl
  | [], _, _, w, h => by cases h
  | x :: ws, [], h, _, _ => by simp [o_bs] at h
  | x :: ws, j :: js, h, w, hw => by
    simp only [o_bs, Bool.and_eq_true] at h
    rcases List.mem_cons.mp hw with rfl | hw
    · exact o_b_in h.1
    · exact o_bs_in ws js h.2 w hw
theorem z_wst : o_bs [.laysStatic "java/lang/Throwable" "UNASSIGNED_STACK" "[Ljava/lang/StackTraceElement;", .laysStatic "java/lang/Throwable" "SUPPRESSED_SENTINEL" "Ljava/util/List;", .laysStatic "java/lang/String" "COMPACT_STRINGS" "Z", .laysStatic "jdk/internal/util/Preconditions" "SIOOBE_FORMATTER" "Ljava/util/function/BiFunction;"] [747, 749, 819, 835] = true := by decide +kernel

theorem z_ini : (["java/lang/Throwable", "java/lang/String", "jdk/internal/util/Preconditions"].all fun c => decide (Cond.initialized c ∈ lw_tbl)) = true := by decide +kernel
abbrev z_gl : List Cond := [.isRef (.static "java/lang/Throwable" "UNASSIGNED_STACK" "[Ljava/lang/StackTraceElement;"), .isRef (.static "java/lang/Throwable" "SUPPRESSED_SENTINEL" "Ljava/util/List;"), .eq (.static "java/lang/String" "COMPACT_STRINGS" "Z") (.int 1), .isRef (.static "jdk/internal/util/Preconditions" "SIOOBE_FORMATTER" "Ljava/util/function/BiFunction;"), .not (.castable "java/lang/IllegalArgumentException" "java/util/NoSuchElementException")]
theorem z_gvs : z_gl.all (fun w => decide (w ∈ flatC z_gv)) = true := by decide +kernel
theorem z_ao : Cond.arrayOver (.object RX9) ∈ lw_tbl := by decide +kernel
theorem z_txt {s : State} {args : Array Value} {A : Nat → Prop} (hlw : ∀ w ∈ lw_tbl, w.before args s = true) (hgv : z_gv.before args s = true) (hA : ∀ a : Nat, a < s.heap.size → ¬ A a) (i : Nat) (hi : i < 27) : ∃ ak av : Nat, vk_R (a_strs.getD i ("", 0, "")).1 (a_strs.getD i ("", 0, "")).2.1 (a_strs.getD i ("", 0, "")).2.2 ak s ∧ vk_S 1 [(a_txt i).length] [(a_txt i).map Int32.ofNat] (fun _ => ak) (fun _ => av) A s s.heap := by
  have h := z_strs i hi
  unfold o_str at h
  generalize a_strs.getD i ("", 0, "") = q at h ⊢
  obtain ⟨own, k, tx⟩ := q
  simp only [Bool.and_eq_true, decide_eq_true_eq] at h
  obtain ⟨⟨h1, h2⟩, h3⟩ := h
  have hc : ∀ w ∈ o_sc own k (a_txt i), w.before args s = true := fun w hw => flat_of_before _ hgv w (of_decide_eq_true (List.all_eq_true.mp h1 w hw))
  have hel : ∀ j, j < (a_txt i).length → (Cond.eq (.elem (.field (.string own k) "java/lang/String" "value" "[B") (.int (Int32.ofNat j))) (.int (Int32.ofNat ((a_txt i).getD j 0)))).before args s = true := fun j hj => hc _ (List.mem_append_right _ (List.mem_map.mpr ⟨j, List.mem_range.mpr hj, rfl⟩))
  obtain ⟨adK, adV, hS, hev⟩ := vk_Sof (args := args) (s := s) (N := 1) (tm := fun _ => .string own k) (len := [(a_txt i).length]) (byt := [(a_txt i).map Int32.ofNat]) (A := A)
    (fun j hj => by obtain rfl : j = 0 := by omega
                    exact h3)
    (fun j hj => hc _ (List.mem_append_left _ (by simp))) (fun j hj => hc _ (List.mem_append_left _ (by simp))) (fun j hj => hc _ (List.mem_append_left _ (by simp)))
    (fun j hj => by obtain rfl : j = 0 := by omega
                    exact hc _ (List.mem_append_left _ (by simp)))
    (fun j hj z hz => by
      obtain rfl : j = 0 := by omega
      have hz' : z < (a_txt i).length := hz
      have := hel z hz'
      have e9 : (([(a_txt i).map Int32.ofNat] : List (List Int32)).getD 0 []).getD z 0 = Int32.ofNat ((a_txt i).getD z 0) := by
        show ((a_txt i).map Int32.ofNat).getD z 0 = _
        simp [List.getD_eq_getElem?_getD, hz']
      rw [e9]
      exact this)
    (fun a b ha hb hab => absurd (show a = b by omega) hab) hA
  refine ⟨adK 0, adV 0, vk_R.of (hlw _ (o_b_in h2)) (hev 0 (by omega)), fun j hj => ?_, fun a b ha hb _ => by omega⟩
  obtain rfl : j = 0 := by omega
  exact hS.1 0 hj
theorem z_mono {p : Program} {l : Launch} {e : Env} {R : Room} {s : State} {m : MethodId} {args : Array Value} {below : List Frame} {meth : Method} {c : Code} {H : Heap} {locs : List Loc} {cells slots : Nat} {Q Q' : State → Prop} {g : JFrame} (h : W p l e R s m args below meth c H locs cells slots Q g) (hq : ∀ t, Q t → Q' t) : W p l e R s m args below meth c H locs cells slots Q' g := by
  intro T hT X
  obtain ⟨t, a1, b1⟩ := h T hT X
  exact ⟨t, a1, hq t b1⟩
theorem z_ms : a_ms[324]? = some (x, code, 8, some .boolean, RL, []) := by rfl
/-- from the entry, for every script of at most 3584 ints, the law comes to its end with true -/
theorem whole_start {p : Program} {e : Env} {s : State} {m : MethodId} {below : List Frame} {meth : Method} {c : Code} (l : Launch) (hl : l.stackTraces = false) (hA : g_all) (hlaw : g_ok 324 (x, code, 8, some .boolean, RL, [])) {b L : Nat} {xs : Nat → Int32} (hPure : PureOk (L, xs)) (C0 : lw_At p s m meth c b L xs) (hex : c.exceptionTable.toList = []) : W p l e room_1 s m #[Value.ref b] below meth c s.heap [] 0 0 (lw_Z below #[Value.ref b] s) (entryFrame m ([Value.ref b] : List Value).toArray 8) := by
  obtain ⟨hx, hb, hr, hml, hown, hlw, hX, hbl, hlocks, hgv⟩ := C0
  obtain ⟨n, h', hrun, hcells, hslots⟩ := hPure
  have hts : ∀ w ∈ a_Ts, w.before #[Value.ref b] s = true := fun w hw => hlw w (a_Ts_in hw)
  obtain ⟨D, hD⟩ := z_cls2 hts
  obtain ⟨cf, hcf⟩ := z_arr hlw
  have hAn : ∀ a : Nat, a < s.heap.size → ¬ (fun q : Nat => s.heap.size ≤ q) a := fun a ha h => absurd h (Nat.not_le.mpr ha)
  have h0 : ∀ i : Nat, ∃ y : Nat × Nat, i < 27 → vk_R (a_strs.getD i ("", 0, "")).1 (a_strs.getD i ("", 0, "")).2.1 (a_strs.getD i ("", 0, "")).2.2 y.1 s ∧ vk_S 1 [(a_txt i).length] [(a_txt i).map Int32.ofNat] (fun _ => y.1) (fun _ => y.2) (fun q : Nat => s.heap.size ≤ q) s s.heap := by
    intro i
    by_cases hi : i < 27
    · obtain ⟨ak, av, e1, e2⟩ := z_txt hlw hgv hAn i hi
      exact ⟨(ak, av), fun _ => ⟨e1, e2⟩⟩
    · exact ⟨(0, 0), fun h => absurd h hi⟩
  obtain ⟨fa, hfa⟩ := Classical.axiomOfChoice h0
  obtain ⟨G, hG⟩ : ∃ G : AG, G = (s.heap.size, (fun i => if i < 27 then (fa i).1 else b), D, cf) := ⟨_, rfl⟩
  have hG1 : G.1 = s.heap.size := by rw [hG]
  have hini : ∀ cc ∈ ["java/lang/Throwable", "java/lang/String", "jdk/internal/util/Preconditions"], (Cond.initialized cc).before #[Value.ref b] s = true := fun cc hc => hlw _ (of_decide_eq_true (List.all_eq_true.mp z_ini cc hc))
  have hst := o_bs_in _ _ z_wst
  have hgs : ∀ w : Cond, w ∈ z_gl → w.before #[Value.ref b] s = true := fun w hw => flat_of_before _ hgv w (of_decide_eq_true (List.all_eq_true.mp z_gvs w hw))
  have hXX : g_X l G (L, xs) s s.heap := by
    subst hG
    refine ⟨fun i hi => ?_, ⟨vx_Zqof (hlw _ (hst _ (List.mem_of_getElem? (i := 0) rfl))) (hini _ (List.mem_of_getElem? (i := 0) rfl)) (hgs _ (List.mem_of_getElem? (i := 0) rfl)) hAn, vx_Zqof (hlw _ (hst _ (List.mem_of_getElem? (i := 1) rfl))) (hini _ (List.mem_of_getElem? (i := 0) rfl)) (hgs _ (List.mem_of_getElem? (i := 1) rfl)) hAn⟩, ⟨va_Zof (hlw _ (hst _ (List.mem_of_getElem? (i := 2) rfl))) (hini _ (List.mem_of_getElem? (i := 1) rfl)) (va_eqt (hgs _ (List.mem_of_getElem? (i := 2) rfl))) hAn, va_Zqof (hlw _ (hst _ (List.mem_of_getElem? (i := 3) rfl))) (hini _ (List.mem_of_getElem? (i := 2) rfl)) (hgs _ (List.mem_of_getElem? (i := 3) rfl)) hAn⟩, ⟨fun a i b n d ho hm => va_Nw.of rfl (hlw _ hm), fun a i x ho hm => va_Nw.of rfl (hlw _ hm), fun C T hm => va_Nw.of rfl (hlw _ hm), fun x hm => va_Nw.of rfl (hlw _ hm)⟩, ⟨va_AO.of (hlw _ z_ao), va_Nc.of (hgs _ (List.mem_of_getElem? (i := 4) rfl))⟩, hl, ?_, ?_⟩
    · obtain ⟨e1, e2⟩ := hfa i hi
      refine ⟨(fa i).2, ?_, ?_⟩
      · simp only [hi, if_true]
        exact e1
      · simp only [hi, if_true]
        exact e2
    · exact hX
    · exact hbl
  have M : g_M l G (L, xs) (x, code, 8, some .boolean, RL, []) p s m #[Value.ref b] meth c := by
    refine ⟨hx, hb, hr, hml, hown, hts, hlocks, fun h => absurd h (by decide), hex, ⟨?_, ?_⟩, hXX, by rw [hG1]; exact Nat.le_refl _⟩
    · subst hG
      exact hD
    · subst hG
      exact hcf
  obtain ⟨-, hB⟩ := s_run l G (L, xs) hA n 100 324 0 _ [] [] _ _ hrun
  have hpc : p_pc (a_code 324) 0 = 0 := rfl
  have he : g_L G ((lg_sl ([Value.float 1000].map (g_v G)) ++ List.replicate (8 - (lg_sl ([Value.float 1000].map (g_v G))).length) Slot.unset).toArray) (a_enter 8 [.float 1000]) := g_entry G [.float 1000] (by decide)
  have hgb : g_v G (.float 1000) = .ref b := by subst hG; rfl
  have hk := hB _ z_ms hlaw p e room_1 s m #[Value.ref b] below meth c 0 0 M (by decide) (by decide) (by show h'.length ≤ 601024 + 0; omega) (by show a_hsz h' ≤ 7293034 + 0; omega) (by rw [hG1]; rfl) s.heap [] _ 0 0 rfl rfl (fun k q h => by simp [g_ws] at h) he rfl va_S.rf
  rw [hpc] at hk
  rw [lg_entry_eq]
  simp only [List.map_cons, List.map_nil, hgb] at hk
  refine z_mono hk (fun t ht => ?_)
  obtain ⟨o, t1, t2, t3⟩ := ht
  rcases t3 with ⟨⟨t4, t5, t6, t7⟩, LL, ⟨f1, f2, f3⟩, t9⟩ | ⟨q, -, E, ce, LL, hx9, -⟩
  · refine ⟨o, t1, t2, t4, f1, f2, ?_⟩
    refine f3.weaken (fun y hy hlt => ?_) (by show h'.length - 0 ≤ 601024; omega) (by show a_hsz h' - 0 ≤ 7293034; omega)
    have := t9 y hy
    rw [show g_A G y.base = (G.1 ≤ y.base) from rfl, hG1] at this
    exact absurd hlt (Nat.not_lt.mpr this)
  · exact absurd hx9 (fun z => z)
set_option maxHeartbeats 4000000 in
theorem lw_walk (l : Launch) (hl : l.stackTraces = false) (hA : g_all) (hlaw : g_ok 324 (x, code, 8, some .boolean, RL, [])) (hPure : ∀ sc : Nat × (Nat → Int32), sc.1 ≤ 3584 → PureOk sc) (b : Addr) (xs : List Int32) : MetFree l x (headSpec (Jvm.Cond.code x code maxLocals ret :: tables_1) room_1) (lw_P b xs) (fun _ _ _ _ _ => True) lw_Q := by
  refine MetFree.of_bodyS (code := code) (maxLocals := maxLocals) (ret := ret) (by decide) ?_ ?_
  · intro args s m h hn
    obtain ⟨meth, c, h1, h2, h3, h4, h5, h6, -, -⟩ := Cond.code_spec hn (atoms_spec (ws := Jvm.Cond.code x code maxLocals ret :: tables_1) h _ List.mem_cons_self)
    exact ⟨meth, c, h1, h2, h3, h4, h5, h6⟩
  · intro p e s m args below meth c s₁ B hml0 hP _
    obtain ⟨rfl, hx, hbd, hgv⟩ := hP
    obtain ⟨scr, harrAt, hlist, hof, hsmall⟩ := hx
    obtain ⟨hcb, hkn, -, -⟩ := State.arrayAt?_spec harrAt
    have hown : s.vm.findClass R_law = some m.cls := findClass_of_methodNamed B.named
    have hts0 : ∀ c ∈ (Jvm.Cond.code x code maxLocals ret :: tables_1), c.before #[Value.ref b] s = true := atoms_spec (ws := Jvm.Cond.code x code maxLocals ret :: tables_1) B.pre
    have hts : ∀ w ∈ lw_tbl, w.before #[Value.ref b] s = true := k2_hts_sels lw_privs (fun w hw => hts0 w (List.mem_cons_of_mem _ hw)) lw_privs_ok
    have hml : c.maxLocals = 8 := B.maxLocals_eq (hts0 _ List.mem_cons_self)
    have X₀ : Stand p l e room_1 s m #[Value.ref b] below meth c s₁ [] 0 0 := Stand.of_body B
    have hh0 : s₁.heap = s.heap := by rw [B.state]; rfl
    have hsz : scr.slots.size = xs.length := by rw [← Array.length_toList, hlist, List.length_map]
    have hval : ∀ j : Nat, j < xs.length → scr.slots[j]? = some (.int (xs.getD j 0)) := fun j hj => by
      rw [← Array.getElem?_toList, hlist]
      simp [hj]
    have hbl : b < s.heap.size := (Array.getElem?_eq_some_iff.mp hcb).1
    have hX : va_X b xs.length (fun j => xs.getD j 0) s s.heap := ⟨scr, hcb, hof, hkn, hsz, hval⟩
    have K : W p l e room_1 s m #[Value.ref b] below meth c s₁.heap [] 0 0 (lw_Z below #[Value.ref b] s) (entryFrame m ([Value.ref b] : List Value).toArray 8) := by
      rw [hh0]
      exact whole_start l hl hA hlaw (hPure _ hbd) ⟨B.exec, B.bytes, B.returns, hml, hown, hts, hX, hbl, B.notSynchronized, hgv⟩ (by have h9 := B.noHandlers (hts0 _ List.mem_cons_self); rw [Array.isEmpty_iff] at h9; rw [h9])
    obtain ⟨t, a1, o, b1, b2, b3⟩ := K s₁ rfl X₀
    exact ⟨t, o, a1, b1, b2, b3⟩
theorem lw_pre_spec {args : Array Value} {s : State} (h : (Jvm.Cond.and given_1 narrow_1).before args s = true) (hr : rest_1_c.before args s = true) : ∃ (b : Addr) (xs : List Int32), lw_P b xs args s := by
  have hs := flat_of_before _ h
  have hq := flat_of_before _ hr
  have hc : (Cond.count 1).before args s = true := hs _ (by decide +kernel)
  have harr : (Cond.arrayOf (.arg 0) .int).before args s = true := hs _ (by decide +kernel)
  have hle : (Cond.le (.length (.arg 0)) (.int 3584)).before args s = true := hs _ (by decide +kernel)
  have hlen : (Cond.isInt (.length (.arg 0))).before args s = true := hq _ (by decide +kernel)
  have hall : (Cond.all (.arg 0) (.isInt (.elem (.arg 0) (.index 0)))).before args s = true := hq _ (by decide +kernel)
  obtain ⟨b, xs, hb, hx⟩ := State.ints_of_pre rfl harr hlen hall
  have hsm : xs.length < 2 ^ 31 := hx.choose_spec.2.2.2
  have hev : (Term.length (.arg 0)).eval args s none [] s = some (.int xs.length.toInt32) := hx.length_eval hb
  have hv := Cond.le_ints hev (show (Term.int 3584).eval args s none [] s = some (.int 3584) from rfl)
  have hd : xs.length.toInt32 ≤ 3584 := by
    simpa [Cond.before, Cond.holds, hv] using hle
  have hN : xs.length ≤ 3584 := (Int32.ofNat_le_ofNat hsm (by decide)).mp (show Int32.ofNat xs.length ≤ Int32.ofNat 3584 from hd)
  exact ⟨b, xs, Cond.one_arg hc (show args[0]? = some (.ref b) from hb), hx, hN, h⟩
theorem lw_comes (l : Launch) (hl : l.stackTraces = false) (hA : g_all) (hlaw : g_ok 324 (x, code, 8, some .boolean, RL, [])) (hPure : ∀ sc : Nat × (Nat → Int32), sc.1 ≤ 3584 → PureOk sc) : Comes l x (Jvm.Cond.code x code maxLocals ret :: tables_1) room_1 (fun tb e args s => Calls_1 tb e args s ∧ rest_1 tb e args s ∧ Pre_1 tb e args s)
    (fun _ _ args s o t => lw_Q args s o t) := by
  intro p e ha hc hk s m args below hf hfit hheap happ hpre
  obtain ⟨b, xs, hP⟩ := lw_pre_spec hpre.2.2 hpre.2.1
  obtain ⟨k, o, h1, h2, h3, hQ⟩ := lw_walk l hl hA hlaw hPure b xs p e ha hc hk s m args below hf ((Spec.applies_iff_loose hf).mp happ).1 hP trivial
  exact ⟨k, o, h1, h2, h3, hQ⟩
theorem lw_frame {s t : State} {o : Outcome} {args : Array Value} (h : Framed s o t [] 601024 7293034) :
    Framed s o t (fieldLocs frame_1_writes args s ++ arrayLocs frame_1_arrays args s ++ staticLocs frame_1_statics s) 601024 7293034 := h
theorem lw_limb (hA : g_all) (hlaw : g_ok 324 (x, code, 8, some .boolean, RL, [])) (hPure : ∀ sc : Nat × (Nat → Int32), sc.1 ≤ 3584 → PureOk sc) (L : Cond) (hL : ∀ (args : Array Value) (s t : State), L.after args s (.returned (some (.int 1))) t = true) :
    ArmFor flags0 classFile x code maxLocals ret World_1 tables_1 room_1 Calls_1 rest_1 Pre_1
      (fun tb e a s o t => postC L tb e a s o t ∧ Framed s o t (fieldLocs frame_1_writes a s ++ arrayLocs frame_1_arrays a s ++ staticLocs frame_1_statics s) 601024 7293034) := by
  intro l hfl _ _ p e ha hc hk s m args below hf hfit hheap happ hpre
  obtain ⟨k, o, h1, h2, h3, rfl, hF⟩ := lw_comes l (by unfold Launch.stackTraces; rw [hfl]; decide) hA hlaw hPure p e ha hc hk s m args below hf hfit hheap happ hpre
  exact ⟨k, _, h1, h2, h3, hL args s _, lw_frame hF⟩
theorem i_vc_open (hA : g_all) (hlaw : g_ok 324 (x, code, 8, some .boolean, RL, [])) (hPure : ∀ sc : Nat × (Nat → Int32), sc.1 ≤ 3584 → PureOk sc) : Claimed_1_1 ∧ Claimed_1_2 := ⟨lw_limb hA hlaw hPure limb_1_1 (fun args s t => by simp [limb_1_1, Cond.after, Cond.holds, Cond.value]), lw_limb hA hlaw hPure limb_1_2 (fun args s t => Cond.after_iff.mpr (by
  first | (rw [show limb_1_2 = Cond.eq .result (.int 1) from rfl, Cond.eq_ints (x := 1) (y := 1) rfl rfl]; simp; done) | (simp [limb_1_2, Cond.value, Term.eval]; done)))⟩

