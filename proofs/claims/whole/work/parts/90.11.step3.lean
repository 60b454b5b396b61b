/-! One instruction of the small machine is what the JVM does: fields, rows, new cells, the library's methods -/
section STEP
theorem g_tyok : ∀ (ci : Nat) (r : vw_C), ci < 13 → a_cl[ci]? = some r → (∀ k, k < r.2.2 → parseFieldDescriptor (r.2.1 k).2.2.1 = some (a_ty ci k)) ∧ (∀ a, a < r.2.2 → ∀ b, b < r.2.2 → a ≠ b → (r.2.1 a).2.1 ≠ (r.2.1 b).2.1) := by
  intro ci r h1 h2
  match ci, h1, h2 with
  | 0, _, h => cases h; exact ⟨tyX0_ok, nmX0⟩
  | 1, _, h => cases h; exact ⟨tyX1_ok, nmX1⟩
  | 2, _, h => cases h; exact ⟨tyX2_ok, nmX2⟩
  | 3, _, h => cases h; exact ⟨tyX3_ok, nmX3⟩
  | 4, _, h => cases h; exact ⟨tyX4_ok, nmX4⟩
  | 5, _, h => cases h; exact ⟨tyX5_ok, nmX5⟩
  | 6, _, h => cases h; exact ⟨tyX6_ok, nmX6⟩
  | 7, _, h => cases h; exact ⟨tyX7_ok, nmX7⟩
  | 8, _, h => cases h; exact ⟨tyX8_ok, nmX8⟩
  | 9, _, h => cases h; exact ⟨tyX9_ok, nmX9⟩
  | 10, _, h => cases h; exact ⟨tyX10_ok, nmX10⟩
  | 11, _, h => cases h; exact ⟨tyX11_ok, nmX11⟩
  | 12, _, h => cases h; exact ⟨tyX12_ok, nmX12⟩
  | ci + 13, h1, _ => omega
noncomputable def o_ws : List Cond → List Nat → Bool
  | w :: ws, j :: js => o_w j w && o_ws ws js
  | [], [] => true
  | _, _ => false
theorem o_ws_in : ∀ (ws : List Cond) (js : List Nat), o_ws ws js = true → ∀ w ∈ ws, w ∈ a_Ts
  | [], _, _, w, h => by cases h
  | x :: ws, [], h, _, _ => by simp [o_ws] at h
  | x :: ws, j :: js, h, w, hw => by
    simp only [o_ws, Bool.and_eq_true] at h
    rcases List.mem_cons.mp hw with rfl | hw
    · exact o_w_in h.1
    · exact o_ws_in ws js h.2 w hw
set_option maxRecDepth 100000 in
theorem g_inw0 : o_ws (u_ws RX0 TX0 6) [313, 315, 317, 319, 321, 323] = true := by decide +kernel
set_option maxRecDepth 100000 in
theorem g_inw1 : o_ws (u_ws RX1 TX1 3) [258, 260, 262] = true := by decide +kernel
set_option maxRecDepth 100000 in
theorem g_inw2 : o_ws (u_ws RX2 TX2 4) [355, 357, 359, 361] = true := by decide +kernel
set_option maxRecDepth 100000 in
theorem g_inw3 : o_ws (u_ws RX3 TX3 10) [223, 225, 227, 229, 231, 233, 235, 237, 239, 241] = true := by decide +kernel
set_option maxRecDepth 100000 in
theorem g_inw4 : o_ws (u_ws RX4 TX4 3) [455, 457, 459] = true := by decide +kernel
set_option maxRecDepth 100000 in
theorem g_inw5 : o_ws (u_ws RX5 TX5 3) [336, 338, 340] = true := by decide +kernel
set_option maxRecDepth 100000 in
theorem g_inw6 : o_ws (u_ws RX6 TX6 4) [428, 430, 432, 434] = true := by decide +kernel
set_option maxRecDepth 100000 in
theorem g_inw7 : o_ws (u_ws RX7 TX7 9) [282, 284, 286, 288, 290, 292, 294, 296, 298] = true := by decide +kernel
set_option maxRecDepth 100000 in
theorem g_inw8 : o_ws (u_ws RX8 TX8 8) [173, 175, 177, 179, 181, 183, 185, 187] = true := by decide +kernel
set_option maxRecDepth 100000 in
theorem g_inw9 : o_ws (u_ws RX9 TX9 11) [397, 399, 401, 403, 405, 407, 409, 411, 413, 415, 417] = true := by decide +kernel
set_option maxRecDepth 100000 in
theorem g_inw10 : o_ws (u_ws RX10 TX10 15) [510, 512, 514, 516, 518, 520, 522, 524, 526, 528, 530, 532, 534, 536, 538] = true := by decide +kernel
set_option maxRecDepth 100000 in
theorem g_inw11 : o_ws (u_ws RX11 TX11 16) [558, 560, 562, 564, 566, 568, 570, 572, 574, 576, 578, 580, 582, 584, 586, 588] = true := by decide +kernel
set_option maxRecDepth 100000 in
theorem g_inw12 : o_ws (u_ws RX12 TX12 77) [1600, 1602, 1604, 1606, 1608, 1610, 1612, 1614, 1616, 1618, 1620, 1622, 1624, 1626, 1628, 1630, 1632, 1634, 1636, 1638, 1640, 1642, 1644, 1646, 1648, 1650, 1652, 1654, 1656, 1658, 1660, 1662, 1664, 1666, 1668, 1670, 1672, 1674, 1676, 1678, 1680, 1682, 1684, 1686, 1688, 1690, 1692, 1694, 1696, 1698, 1700, 1702, 1704, 1706, 1708, 1710, 1712, 1714, 1716, 1718, 1720, 1722, 1724, 1726, 1728, 1730, 1732, 1734, 1736, 1738, 1740, 1742, 1744, 1746, 1748, 1750, 1752] = true := by decide +kernel
theorem g_in {ci : Nat} {r : vw_C} (h : a_cl[ci]? = some r) : ∀ w ∈ u_ws r.1 r.2.1 r.2.2, w ∈ a_Ts := by
  match ci, h with
  | 0, h => cases h; exact o_ws_in _ _ g_inw0
  | 1, h => cases h; exact o_ws_in _ _ g_inw1
  | 2, h => cases h; exact o_ws_in _ _ g_inw2
  | 3, h => cases h; exact o_ws_in _ _ g_inw3
  | 4, h => cases h; exact o_ws_in _ _ g_inw4
  | 5, h => cases h; exact o_ws_in _ _ g_inw5
  | 6, h => cases h; exact o_ws_in _ _ g_inw6
  | 7, h => cases h; exact o_ws_in _ _ g_inw7
  | 8, h => cases h; exact o_ws_in _ _ g_inw8
  | 9, h => cases h; exact o_ws_in _ _ g_inw9
  | 10, h => cases h; exact o_ws_in _ _ g_inw10
  | 11, h => cases h; exact o_ws_in _ _ g_inw11
  | 12, h => cases h; exact o_ws_in _ _ g_inw12
  | 13, h => cases h; intro w hw; cases hw
  | 14, h => cases h; intro w hw; cases hw
  | ci + 15, h => simp [a_cl] at h
theorem g_map_get (G : AG) {fs : List Value} {k : Nat} {v : Value} (h : fs[k]? = some v) : (fs.map (g_v G))[k]? = some (g_v G v) := by rw [List.getElem?_map, h]; rfl
theorem g_nar (G : AG) {ty : FieldType} {v : Value} (hf : a_isF v = false) (h : a_fit ty v = true) : narrow ty (g_v G v) = g_v G v ∧ fits ty (g_v G v) = true := by
  simp only [a_fit, Bool.and_eq_true, decide_eq_true_eq] at h
  cases v with
  | float x => cases hf
  | ref x => exact ⟨by cases ty <;> rfl, by have := h.2; cases ty <;> simp_all [fits, g_v]⟩
  | _ => exact h
theorem a_hsz_app (c : AC) : ∀ h : AH, a_hsz (h ++ [c]) = a_hsz h + a_sz c
  | [] => by simp [a_hsz]
  | x :: t => by simp only [List.cons_append, a_hsz, a_hsz_app c t]; omega
theorem a_hsz_set (c c' : AC) (hs : a_sz c' = a_sz c) : ∀ (h : AH) (j : Nat), h[j]? = some c → a_hsz (h.set j c') = a_hsz h
  | [], j, h => by simp at h
  | x :: t, 0, h => by simp at h; subst h; simp [a_hsz, hs]
  | x :: t, j + 1, h => by
    simp only [List.set_cons_succ, a_hsz]
    rw [a_hsz_set c c' hs t j (by simpa using h)]
theorem g_cats (G : AG) : ∀ st : List Value, ((st.map (g_v G)).map fun v => v.category).sum = a_cat st
  | [] => rfl
  | v :: t => by
    simp only [List.map_cons, List.sum_cons, a_cat, g_cat]
    rw [g_cats G t]
section
variable {p : Program} {l : Launch} {e : Env} {R : Room} {s : State} {m : MethodId} {args : Array Value} {below : List Frame} {meth : Method} {c : Code} {H : Heap} {locs : List Loc} {cells slots : Nat} {Q : State → Prop} {G : AG} {sc : Nat × (Nat → Int32)} {q : AM} {cd : List AI} {o pc len : Nat} {i : Instr} {ps : List Nat} {L st : List Value} {h : AH} {o' : Nat} {L' st' : List Value} {h' : AH} {ls : Array Slot}
/-- a new cell's address is the next one -/
theorem g_fresh {x : Nat} {ev : va_E} {h : AH} {H1 : Heap} (hP1 : va_P G.2.2.1 a_cl (g_ws G 0 h ++ [(x, ev)]) H1) (hD1 : va_D (g_A G) (g_ws G 0 h ++ [(x, ev)])) (hz : H1.size ≤ G.1 + h.length + 1) : x = G.1 + h.length := by
  have hlen : (g_ws G 0 h).length = h.length := by
    have h1 : ∀ (h : AH) (k : Nat), (g_ws G k h).length = h.length := fun h => by
      induction h with
      | nil => intro k; rfl
      | cons a t ih => intro k; simp [g_ws, ih]
    exact h1 h 0
  have hx : (g_ws G 0 h ++ [(x, ev)])[h.length]? = some (x, ev) := by
    rw [List.getElem?_append_right (by omega), hlen]
    simp
  have h1 : x < H1.size := (hP1 _ _ hx).lt
  have h2 : G.1 ≤ x := hD1.2 _ _ hx
  rcases Nat.lt_or_ge x (G.1 + h.length) with hlt | hge
  · have hj : x - G.1 < h.length := by omega
    have h3 : (g_ws G 0 h ++ [(x, ev)])[x - G.1]? = some (G.1 + (x - G.1), g_c G (h[x - G.1]'hj)) := by
      rw [List.getElem?_append_left (by omega)]
      exact g_at G (List.getElem?_eq_getElem hj)
    have h4 := hD1.1 _ _ _ _ hx h3 (by dsimp only; omega)
    omega
  · omega
theorem s_getfield (M : g_M l G sc q p s m args meth c) {z : Nat} (hok : o_ok q.2.2.2.2.1 q.2.1 q.2.2.2.1 (decide (q.1.name = "<init>")) cd o (pc, .getfield z, len, ps) = true) (hst : a_step sc o (.getfield z) ps L st h = some (.inl (o', L', st', h'))) (hP : g_P G h H) (hL : g_L G ls L) (hS : va_S (g_A G) s.heap H locs)
    (kk : g_K p l e R s m args below meth c Q G cd h cells slots o' L' st' h') : W p l e R s m args below meth c H locs cells slots Q (F0 m pc ls (st.map (g_v G))) := by
  obtain ⟨hx, hb, hr, hml, hown, hts, hlocks, hin, htab, hK, hX, hbase⟩ := M
  simp only [o_ok, Bool.and_eq_true, decide_eq_true_eq] at hok
  obtain ⟨hd, hok1, hok2⟩ := hok
  obtain ⟨rfl, hn⟩ := p_n hok1
  simp only [a_step] at hst
  split at hst
  · rename_i kd ci k9 j9
    simp only [a_getf] at hst
    split at hst
    · rename_i r rest
      split at hst
      · rename_i cc9 fs hcell
        split at hst
        · rename_i hci
          subst hci
          obtain ⟨w, hw, rfl, rfl, rfl, rfl⟩ := g_ld hst
          have k := kk H locs ls cells slots hP hL hS rfl rfl
          rw [hn] at k
          have he := g_at G hcell
          have hv := g_map_get G hw
          simp only [o_fl] at hok2
          split at hok2
          · rename_i rr hrr
            obtain ⟨C, T, N⟩ := rr
            simp only [Bool.and_eq_true, decide_eq_true_eq] at hok2
            obtain ⟨⟨h13, hkN⟩, hlk⟩ := hok2
            split at hlk
            · exact va_getN (D := G.2.2.1) (cl := a_cl) (C := C) (T := T) (N := N) hx hb hts (g_in hrr) hown hK hP r he hrr k9 hkN (va_Nw.use rfl (hX.2.2.2.1.1 _ _ _ _ _ _ (o_b_in hlk))) (fun _ h9 => h9) hv hd k
            · exact va_get (D := G.2.2.1) (cl := a_cl) (C := C) (T := T) (N := N) hx hb hts (g_in hrr) hown hK hP r he hrr k9 hkN (hts _ (o_w_in hlk)) (fun _ h9 => h9) hv hd k
          · cases hok2
        · cases hst
      · cases hst
    · cases hst
  · cases hst
theorem s_putfield (M : g_M l G sc q p s m args meth c) {z : Nat} (hok : o_ok q.2.2.2.2.1 q.2.1 q.2.2.2.1 (decide (q.1.name = "<init>")) cd o (pc, .putfield z, len, ps) = true) (hst : a_step sc o (.putfield z) ps L st h = some (.inl (o', L', st', h'))) (hP : g_P G h H) (hL : g_L G ls L) (hS : va_S (g_A G) s.heap H locs)
    (kk : g_K p l e R s m args below meth c Q G cd h cells slots o' L' st' h') : W p l e R s m args below meth c H locs cells slots Q (F0 m pc ls (st.map (g_v G))) := by
  obtain ⟨hx, hb, hr, hml, hown, hts, hlocks, hin, htab, hK, hX, hbase⟩ := M
  simp only [o_ok, Bool.and_eq_true, decide_eq_true_eq] at hok
  obtain ⟨hd, ⟨hok1, hok2⟩, hok3⟩ := hok
  obtain ⟨rfl, hn⟩ := p_n hok1
  simp only [a_step] at hst
  split at hst
  · rename_i kd ci k9 j9
    simp only [a_putf] at hst
    split at hst
    · rename_i v r rest
      split at hst
      · rename_i cc9 fs hcell
        split at hst
        · rename_i hc9
          obtain ⟨rfl, hkl, hnf, hfit⟩ := hc9
          obtain ⟨rfl, rfl, rfl, rfl⟩ := g_go hst
          have he := g_at G hcell
          obtain ⟨hnar, hfits⟩ := g_nar G hnf hfit
          simp only [o_fl] at hok2
          split at hok2
          · rename_i rr hrr
            obtain ⟨C, T, N⟩ := rr
            simp only [Bool.and_eq_true, decide_eq_true_eq] at hok2
            obtain ⟨⟨h13, hkN⟩, hlk⟩ := hok2
            obtain ⟨hty, hnm⟩ := g_tyok _ _ h13 hrr
            simp only [o_fin, hrr] at hok3
            have hlf : k9 < (fs.map (g_v G)).length := by rw [List.length_map]; exact hkl
            split at hlk
            · rename_i hkd
              subst hkd
              rw [if_neg (by decide)] at hok3
              refine va_putN (D := G.2.2.1) (cl := a_cl) (C := C) (T := T) (N := N) hx hb hts (g_in hrr) _ hty hnm hown hK hP (g_D G h) hS r he hrr k9 hkN (va_Nw.use rfl (hX.2.2.2.1.1 _ _ _ _ _ _ (o_b_in hlk))) (fun _ h9 => h9) (of_decide_eq_true hok3) (hty k9 hkN) hnar hfits hlf hd (fun H1 locs1 hP1 hD1 hS1 => ?_)
              have hP1' : g_P G (h.set r (.inr (cc9, fs.set k9 v))) H1 := by
                unfold g_P
                rw [g_ws_set]
                simpa [g_c, List.map_set] using hP1
              have k := kk H1 locs1 ls cells slots hP1' hL hS1 (by rw [List.length_set]) (congrArg (fun z => slots + z) (a_hsz_set (.inr (cc9, fs)) (.inr (cc9, fs.set k9 v)) rfl h r hcell).symm)
              rw [hn] at k
              exact k
            · split at hok3
              · simp only [Bool.and_eq_true, decide_eq_true_eq] at hok3
                obtain ⟨⟨f1, f2⟩, f3⟩ := hok3
                refine va_putF (D := G.2.2.1) (cl := a_cl) (C := C) (T := T) (N := N) hx hb hts (g_in hrr) _ hty hnm hown hK hP (g_D G h) hS r he hrr k9 hkN (hts _ (o_w_in hlk)) (fun _ h9 => h9) f1 (hin f2) f3 (hty k9 hkN) hnar hfits hlf hd (fun H1 locs1 hP1 hD1 hS1 => ?_)
                have hP1' : g_P G (h.set r (.inr (cc9, fs.set k9 v))) H1 := by
                  unfold g_P
                  rw [g_ws_set]
                  simpa [g_c, List.map_set] using hP1
                have k := kk H1 locs1 ls cells slots hP1' hL hS1 (by rw [List.length_set]) (congrArg (fun z => slots + z) (a_hsz_set (.inr (cc9, fs)) (.inr (cc9, fs.set k9 v)) rfl h r hcell).symm)
                rw [hn] at k
                exact k
              · refine va_put (D := G.2.2.1) (cl := a_cl) (C := C) (T := T) (N := N) hx hb hts (g_in hrr) _ hty hnm hown hK hP (g_D G h) hS r he hrr k9 hkN (hts _ (o_w_in hlk)) (fun _ h9 => h9) (of_decide_eq_true hok3) (hty k9 hkN) hnar hfits hlf hd (fun H1 locs1 hP1 hD1 hS1 => ?_)
                have hP1' : g_P G (h.set r (.inr (cc9, fs.set k9 v))) H1 := by
                  unfold g_P
                  rw [g_ws_set]
                  simpa [g_c, List.map_set] using hP1
                have k := kk H1 locs1 ls cells slots hP1' hL hS1 (by rw [List.length_set]) (congrArg (fun z => slots + z) (a_hsz_set (.inr (cc9, fs)) (.inr (cc9, fs.set k9 v)) rfl h r hcell).symm)
                rw [hn] at k
                exact k
          · cases hok2
        · cases hst
      · cases hst
    · cases hst
  · cases hst
theorem s_laload (M : g_M l G sc q p s m args meth c) (hok : o_ok q.2.2.2.2.1 q.2.1 q.2.2.2.1 (decide (q.1.name = "<init>")) cd o (pc, .laload, len, ps) = true) (hst : a_step sc o (.laload) ps L st h = some (.inl (o', L', st', h'))) (hP : g_P G h H) (hL : g_L G ls L) (hS : va_S (g_A G) s.heap H locs)
    (kk : g_K p l e R s m args below meth c Q G cd h cells slots o' L' st' h') : W p l e R s m args below meth c H locs cells slots Q (F0 m pc ls (st.map (g_v G))) := by
  obtain ⟨hx, hb, hr, hml, hown, hts, hlocks, hin, htab, hK, hX, hbase⟩ := M
  simp only [o_ok, Bool.and_eq_true, decide_eq_true_eq] at hok
  obtain ⟨hd, hok⟩ := hok
  obtain ⟨rfl, hn⟩ := p_n hok
  simp only [a_step, a_lald] at hst
  split at hst
  · rename_i ix r rest
    split at hst
    · rename_i n9 f9 hcell
      split at hst
      · rename_i hi
        obtain ⟨rfl, rfl, rfl, rfl⟩ := g_go hst
        have k := kk H locs ls cells slots hP hL hS rfl rfl
        rw [hn] at k
        exact va_lald hx hb hK hP r 1 (g_at G hcell) rfl (a_in_iff.mp hi) hd k
      · cases hst
    · cases hst
  · cases hst
theorem s_iaload (M : g_M l G sc q p s m args meth c) (hok : o_ok q.2.2.2.2.1 q.2.1 q.2.2.2.1 (decide (q.1.name = "<init>")) cd o (pc, .iaload, len, ps) = true) (hst : a_step sc o (.iaload) ps L st h = some (.inl (o', L', st', h'))) (hP : g_P G h H) (hL : g_L G ls L) (hS : va_S (g_A G) s.heap H locs)
    (kk : g_K p l e R s m args below meth c Q G cd h cells slots o' L' st' h') : W p l e R s m args below meth c H locs cells slots Q (F0 m pc ls (st.map (g_v G))) := by
  obtain ⟨hx, hb, hr, hml, hown, hts, hlocks, hin, htab, hK, hX, hbase⟩ := M
  simp only [o_ok, Bool.and_eq_true, decide_eq_true_eq] at hok
  obtain ⟨hd, hok⟩ := hok
  obtain ⟨rfl, hn⟩ := p_n hok
  simp only [a_step, a_iald] at hst
  split at hst
  · rename_i ix r rest
    split at hst
    · rename_i n9 f9 hcell
      split at hst
      · rename_i hi
        obtain ⟨rfl, rfl, rfl, rfl⟩ := g_go hst
        have k := kk H locs ls cells slots hP hL hS rfl rfl
        rw [hn] at k
        exact va_iald hx hb hK hP r 0 (g_at G hcell) rfl (a_in_iff.mp hi) hd k
      · cases hst
    · cases hst
  · rename_i ix qf rest
    split at hst
    · rename_i hc9
      obtain ⟨rfl, rfl, rfl, rfl⟩ := g_go hst
      have k := kk H locs ls cells slots hP hL hS rfl rfl
      rw [hn] at k
      obtain ⟨hq9, hi⟩ := hc9
      subst hq9
      exact va_sld hx hb (H0 := s.heap) hX.2.2.2.2.2.2.1 (Nat.lt_of_lt_of_le hX.2.2.2.2.2.2.2 hbase) (Nat.not_le.mpr hX.2.2.2.2.2.2.2) hS (a_in_iff.mp hi) hd k
    · cases hst
  · cases hst
theorem s_aaload (M : g_M l G sc q p s m args meth c) (hok : o_ok q.2.2.2.2.1 q.2.1 q.2.2.2.1 (decide (q.1.name = "<init>")) cd o (pc, .aaload, len, ps) = true) (hst : a_step sc o (.aaload) ps L st h = some (.inl (o', L', st', h'))) (hP : g_P G h H) (hL : g_L G ls L) (hS : va_S (g_A G) s.heap H locs)
    (kk : g_K p l e R s m args below meth c Q G cd h cells slots o' L' st' h') : W p l e R s m args below meth c H locs cells slots Q (F0 m pc ls (st.map (g_v G))) := by
  obtain ⟨hx, hb, hr, hml, hown, hts, hlocks, hin, htab, hK, hX, hbase⟩ := M
  simp only [o_ok, Bool.and_eq_true, decide_eq_true_eq] at hok
  obtain ⟨hd, hok⟩ := hok
  obtain ⟨rfl, hn⟩ := p_n hok
  simp only [a_step, a_aald] at hst
  split at hst
  · rename_i ix r rest
    split at hst
    · rename_i n9 f9 hcell
      split at hst
      · rename_i hi
        obtain ⟨rfl, rfl, rfl, rfl⟩ := g_go hst
        have k := kk H locs ls cells slots hP hL hS rfl rfl
        rw [hn] at k
        have e9 : g_v G (va_rf (f9 ix.toNatClampNeg)) = va_rf ((f9 ix.toNatClampNeg).map (fun k => G.1 + k)) := by cases f9 ix.toNatClampNeg <;> rfl
        rw [List.map_cons, e9] at k
        exact va_aldq hx hb hK hP r 2 (g_at G hcell) rfl (a_in_iff.mp hi) hd k
      · cases hst
    · cases hst
  · cases hst
theorem s_iastore (M : g_M l G sc q p s m args meth c) (hok : o_ok q.2.2.2.2.1 q.2.1 q.2.2.2.1 (decide (q.1.name = "<init>")) cd o (pc, .iastore, len, ps) = true) (hst : a_step sc o (.iastore) ps L st h = some (.inl (o', L', st', h'))) (hP : g_P G h H) (hL : g_L G ls L) (hS : va_S (g_A G) s.heap H locs)
    (kk : g_K p l e R s m args below meth c Q G cd h cells slots o' L' st' h') : W p l e R s m args below meth c H locs cells slots Q (F0 m pc ls (st.map (g_v G))) := by
  obtain ⟨hx, hb, hr, hml, hown, hts, hlocks, hin, htab, hK, hX, hbase⟩ := M
  simp only [o_ok, Bool.and_eq_true, decide_eq_true_eq] at hok
  obtain ⟨hd, hok⟩ := hok
  obtain ⟨rfl, hn⟩ := p_n hok
  simp only [a_step, a_iast] at hst
  split at hst
  · rename_i xv ix r rest
    split at hst
    · rename_i n9 f9 hcell
      split at hst
      · rename_i hi
        obtain ⟨rfl, rfl, rfl, rfl⟩ := g_go hst
        refine va_iast hx hb hK hP (g_D G h) hS r 0 (g_at G hcell) rfl (a_in_iff.mp hi) hd (fun H1 locs1 hP1 hD1 hS1 => ?_)
        have hP1' : g_P G (h.set r (.inl (0, n9, .inl (upd f9 ix.toNatClampNeg xv)))) H1 := by
          unfold g_P
          rw [g_ws_set]
          simpa [g_c, g_a] using hP1
        have k := kk H1 locs1 ls cells slots hP1' hL hS1 (by rw [List.length_set]) (congrArg (fun z => slots + z) (a_hsz_set (.inl (0, n9, .inl f9)) (.inl (0, n9, .inl (upd f9 ix.toNatClampNeg xv))) rfl h r hcell).symm)
        rw [hn] at k
        exact k
      · cases hst
    · cases hst
  · cases hst
theorem s_lastore (M : g_M l G sc q p s m args meth c) (hok : o_ok q.2.2.2.2.1 q.2.1 q.2.2.2.1 (decide (q.1.name = "<init>")) cd o (pc, .lastore, len, ps) = true) (hst : a_step sc o (.lastore) ps L st h = some (.inl (o', L', st', h'))) (hP : g_P G h H) (hL : g_L G ls L) (hS : va_S (g_A G) s.heap H locs)
    (kk : g_K p l e R s m args below meth c Q G cd h cells slots o' L' st' h') : W p l e R s m args below meth c H locs cells slots Q (F0 m pc ls (st.map (g_v G))) := by
  obtain ⟨hx, hb, hr, hml, hown, hts, hlocks, hin, htab, hK, hX, hbase⟩ := M
  simp only [o_ok, Bool.and_eq_true, decide_eq_true_eq] at hok
  obtain ⟨hd, hok⟩ := hok
  obtain ⟨rfl, hn⟩ := p_n hok
  simp only [a_step, a_last] at hst
  split at hst
  · rename_i xv ix r rest
    split at hst
    · rename_i n9 f9 hcell
      split at hst
      · rename_i hi
        obtain ⟨rfl, rfl, rfl, rfl⟩ := g_go hst
        refine va_last hx hb hK hP (g_D G h) hS r 1 (g_at G hcell) rfl (a_in_iff.mp hi) hd (fun H1 locs1 hP1 hD1 hS1 => ?_)
        have hP1' : g_P G (h.set r (.inl (1, n9, .inr (.inl (vp_updL f9 ix.toNatClampNeg xv))))) H1 := by
          unfold g_P
          rw [g_ws_set]
          simpa [g_c, g_a] using hP1
        have k := kk H1 locs1 ls cells slots hP1' hL hS1 (by rw [List.length_set]) (congrArg (fun z => slots + z) (a_hsz_set (.inl (1, n9, .inr (.inl f9))) (.inl (1, n9, .inr (.inl (vp_updL f9 ix.toNatClampNeg xv)))) rfl h r hcell).symm)
        rw [hn] at k
        exact k
      · cases hst
    · cases hst
  · cases hst
theorem s_arraylength (M : g_M l G sc q p s m args meth c) (hok : o_ok q.2.2.2.2.1 q.2.1 q.2.2.2.1 (decide (q.1.name = "<init>")) cd o (pc, .arraylength, len, ps) = true) (hst : a_step sc o (.arraylength) ps L st h = some (.inl (o', L', st', h'))) (hP : g_P G h H) (hL : g_L G ls L) (hS : va_S (g_A G) s.heap H locs)
    (kk : g_K p l e R s m args below meth c Q G cd h cells slots o' L' st' h') : W p l e R s m args below meth c H locs cells slots Q (F0 m pc ls (st.map (g_v G))) := by
  obtain ⟨hx, hb, hr, hml, hown, hts, hlocks, hin, htab, hK, hX, hbase⟩ := M
  simp only [o_ok, Bool.and_eq_true, decide_eq_true_eq] at hok
  obtain ⟨hd, hok⟩ := hok
  obtain ⟨rfl, hn⟩ := p_n hok
  simp only [a_step, a_alen] at hst
  split at hst
  · rename_i r rest
    split at hst
    · rename_i n9 f9 hcell
      obtain ⟨rfl, rfl, rfl, rfl⟩ := g_go hst
      have k := kk H locs ls cells slots hP hL hS rfl rfl
      rw [hn] at k
      exact va_alen hx hb hK hP r 0 (g_at G hcell) rfl rfl hd k
    · rename_i n9 f9 hcell
      obtain ⟨rfl, rfl, rfl, rfl⟩ := g_go hst
      have k := kk H locs ls cells slots hP hL hS rfl rfl
      rw [hn] at k
      exact va_alen hx hb hK hP r 1 (g_at G hcell) rfl rfl hd k
    · cases hst
  · rename_i qf rest
    split at hst
    · rename_i hq9
      subst hq9
      obtain ⟨rfl, rfl, rfl, rfl⟩ := g_go hst
      have k := kk H locs ls cells slots hP hL hS rfl rfl
      rw [hn] at k
      exact va_slen hx hb (H0 := s.heap) hX.2.2.2.2.2.2.1 (Nat.lt_of_lt_of_le hX.2.2.2.2.2.2.2 hbase) (Nat.not_le.mpr hX.2.2.2.2.2.2.2) hS hd k
    · cases hst
  · cases hst
end
end STEP
