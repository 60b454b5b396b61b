/-! The law's start: what the Statement gives is what the simulation needs -/
section START
theorem z_cls {s : State} {args : Array Value} (hts : ∀ w ∈ a_Ts, w.before args s = true) (ci : Nat) (r : vw_C) (h : a_cl[ci]? = some r) : ∃ (cC : ClassId) (iS : Nat → Nat), u_Kn s r.1 r.2.1 r.2.2 cC iS := by
  match ci, h with
  | 0, h => cases h; exact u_known (n := 6) hts (g_in (ci := 0) rfl) (hts _ (o_w_in (j := 302) (by decide +kernel)))
  | 1, h => cases h; exact u_known (n := 3) hts (g_in (ci := 1) rfl) (hts _ (o_w_in (j := 245) (by decide +kernel)))
  | 2, h => cases h; exact u_known (n := 4) hts (g_in (ci := 2) rfl) (hts _ (o_w_in (j := 344) (by decide +kernel)))
  | 3, h => cases h; exact u_known (n := 10) hts (g_in (ci := 3) rfl) (hts _ (o_w_in (j := 192) (by decide +kernel)))
  | 4, h => cases h; exact u_known (n := 3) hts (g_in (ci := 4) rfl) (hts _ (o_w_in (j := 446) (by decide +kernel)))
  | 5, h => cases h; exact u_known (n := 3) hts (g_in (ci := 5) rfl) (hts _ (o_w_in (j := 328) (by decide +kernel)))
  | 6, h => cases h; exact u_known (n := 4) hts (g_in (ci := 6) rfl) (hts _ (o_w_in (j := 365) (by decide +kernel)))
  | 7, h => cases h; exact u_known (n := 9) hts (g_in (ci := 7) rfl) (hts _ (o_w_in (j := 266) (by decide +kernel)))
  | 8, h => cases h; exact u_known (n := 8) hts (g_in (ci := 8) rfl) (hts _ (o_w_in (j := 153) (by decide +kernel)))
  | 9, h => cases h; exact u_known (n := 11) hts (g_in (ci := 9) rfl) (hts _ (o_w_in (j := 371) (by decide +kernel)))
  | 10, h => cases h; exact u_known (n := 15) hts (g_in (ci := 10) rfl) (hts _ (o_w_in (j := 440) (by decide +kernel)))
  | 11, h => cases h; exact u_known (n := 16) hts (g_in (ci := 11) rfl) (hts _ (o_w_in (j := 145) (by decide +kernel)))
  | 12, h => cases h; exact u_known (n := 77) hts (g_in (ci := 12) rfl) (hts _ (o_w_in (j := 1506) (by decide +kernel)))
  | 13, h => cases h; exact u_known (n := 6) hts (g_in (ci := 13) rfl) (hts _ (o_w_in (j := 721) (by decide +kernel)))
  | 14, h => cases h; exact u_known (n := 6) hts (g_in (ci := 14) rfl) (hts _ (o_w_in (j := 1174) (by decide +kernel)))
  | ci + 15, h => simp [a_cl] at h
theorem z_cls2 {s : State} {args : Array Value} (hts : ∀ w ∈ a_Ts, w.before args s = true) : ∃ D : va_G, ∀ (ci : Nat) (r : vw_C), a_cl[ci]? = some r → u_Kn s r.1 r.2.1 r.2.2 (D.1 ci) (D.2 ci) := by
  have h0 : ∀ ci : Nat, ∃ y : ClassId × (Nat → Nat), ∀ r, a_cl[ci]? = some r → u_Kn s r.1 r.2.1 r.2.2 y.1 y.2 := by
    intro ci
    cases hc : a_cl[ci]? with
    | none => exact ⟨(0, fun _ => 0), fun r h => by cases h⟩
    | some r =>
      obtain ⟨c, i, h⟩ := z_cls hts ci r hc
      exact ⟨(c, i), fun r' h' => by cases h'; exact h⟩
  obtain ⟨f, hf⟩ := Classical.axiomOfChoice h0
  exact ⟨(fun ci => (f ci).1, fun ci => (f ci).2), fun ci r h => hf ci r h⟩
theorem z_arr {s : State} {args : Array Value} (hlw : ∀ w ∈ lw_tbl, w.before args s = true) : ∃ f : Nat → ClassId, ∀ (k : Nat) (q : ClassId × FieldType), ([(f 0, .int), (f 1, .long), (f 2, .object RX9)] : List (ClassId × FieldType))[k]? = some q → ArrOfT s q.1 q.2 ∧ va_RA s q.1 q.2 := by
  obtain ⟨c0, k0, p0, a1, a2, a3⟩ := Cond.arrayClass_spec (hlw (.arrayClass .int) (o_b_in (j := 190) (by decide +kernel)))
  obtain ⟨c1, k1, p1, b1, b2, b3⟩ := Cond.arrayClass_spec (hlw (.arrayClass .long) (o_b_in (j := 326) (by decide +kernel)))
  obtain ⟨p2, c2, k2, d1, d2, d3, d4, d5⟩ := Cond.arrayOver_spec (hlw (.arrayOver (.object RX9)) (o_b_in (j := 438) (by decide +kernel)))
  refine ⟨fun k => if k = 0 then c0 else if k = 1 then c1 else c2, fun k q hk => ?_⟩
  match k, hk with
  | 0, hk => cases hk; exact ⟨fun n z => ⟨fun k h => (by cases h), k0, a2, p0, a3⟩, a1⟩
  | 1, hk => cases hk; exact ⟨fun n z => ⟨fun k h => (by cases h), k1, b2, p1, b3⟩, b1⟩
  | 2, hk => cases hk; exact ⟨fun n z => ⟨fun k h => (by cases h), k2, d3, p2, d4⟩, k2, p2, d3, d4, d1, d5⟩
  | k + 3, hk => simp at hk
/-- what the Statement says of a text constant -/
def o_sc (own : String) (k : Nat) (b : List Nat) : List Cond := [.exactly (.string own k) "java/lang/String", .eq (.field (.string own k) "java/lang/String" "coder" "B") (.int 0), .arrayOf (.field (.string own k) "java/lang/String" "value" "[B") .byte, .eq (.length (.field (.string own k) "java/lang/String" "value" "[B")) (.int (Int32.ofNat b.length))] ++ (List.range b.length).map (fun j => .eq (.elem (.field (.string own k) "java/lang/String" "value" "[B") (.int (Int32.ofNat j))) (.int (Int32.ofNat (b.getD j 0))))
def o_spos : List Nat := [760, 804, 989, 1019, 1182, 1405, 1797, 1803, 1804, 1805, 1806, 1807, 1808, 1809, 1810, 1811, 1879, 1884, 1889, 1890, 1891, 1892, 1893, 1902, 1911, 1912, 1913]
abbrev z_gv : Jvm.Cond := Jvm.Cond.and given_1 narrow_1
noncomputable def o_str (i : Nat) : Bool := (o_sc (a_strs.getD i ("", 0, "")).1 (a_strs.getD i ("", 0, "")).2.1 (a_txt i)).all (fun w => decide (w ∈ flatC z_gv)) && o_b (o_spos.getD i 0) (.stringRef (a_strs.getD i ("", 0, "")).1 (a_strs.getD i ("", 0, "")).2.1 (a_strs.getD i ("", 0, "")).2.2) && decide ((a_txt i).length < 2 ^ 31)
set_option maxRecDepth 100000 in
theorem z_str0 : o_str 0 = true := by decide +kernel
set_option maxRecDepth 100000 in
theorem z_str1 : o_str 1 = true := by decide +kernel
set_option maxRecDepth 100000 in
theorem z_str2 : o_str 2 = true := by decide +kernel
set_option maxRecDepth 100000 in
theorem z_str3 : o_str 3 = true := by decide +kernel
set_option maxRecDepth 100000 in
theorem z_str4 : o_str 4 = true := by decide +kernel
set_option maxRecDepth 100000 in
theorem z_str5 : o_str 5 = true := by decide +kernel
set_option maxRecDepth 100000 in
theorem z_str6 : o_str 6 = true := by decide +kernel
set_option maxRecDepth 100000 in
theorem z_str7 : o_str 7 = true := by decide +kernel
set_option maxRecDepth 100000 in
theorem z_str8 : o_str 8 = true := by decide +kernel
set_option maxRecDepth 100000 in
theorem z_str9 : o_str 9 = true := by decide +kernel
set_option maxRecDepth 100000 in
theorem z_str10 : o_str 10 = true := by decide +kernel
set_option maxRecDepth 100000 in
theorem z_str11 : o_str 11 = true := by decide +kernel
set_option maxRecDepth 100000 in
theorem z_str12 : o_str 12 = true := by decide +kernel
set_option maxRecDepth 100000 in
theorem z_str13 : o_str 13 = true := by decide +kernel
set_option maxRecDepth 100000 in
theorem z_str14 : o_str 14 = true := by decide +kernel
set_option maxRecDepth 100000 in
theorem z_str15 : o_str 15 = true := by decide +kernel
set_option maxRecDepth 100000 in
theorem z_str16 : o_str 16 = true := by decide +kernel
set_option maxRecDepth 100000 in
theorem z_str17 : o_str 17 = true := by decide +kernel
set_option maxRecDepth 100000 in
theorem z_str18 : o_str 18 = true := by decide +kernel
set_option maxRecDepth 100000 in
theorem z_str19 : o_str 19 = true := by decide +kernel
set_option maxRecDepth 100000 in
theorem z_str20 : o_str 20 = true := by decide +kernel
set_option maxRecDepth 100000 in
theorem z_str21 : o_str 21 = true := by decide +kernel
set_option maxRecDepth 100000 in
theorem z_str22 : o_str 22 = true := by decide +kernel
set_option maxRecDepth 100000 in
theorem z_str23 : o_str 23 = true := by decide +kernel
set_option maxRecDepth 100000 in
theorem z_str24 : o_str 24 = true := by decide +kernel
set_option maxRecDepth 100000 in
theorem z_str25 : o_str 25 = true := by decide +kernel
set_option maxRecDepth 100000 in
theorem z_str26 : o_str 26 = true := by decide +kernel
theorem z_strs : ∀ i, i < 27 → o_str i = true := by
  intro i hi
  match i, hi with
  | 0, _ => exact z_str0
  | 1, _ => exact z_str1
  | 2, _ => exact z_str2
  | 3, _ => exact z_str3
  | 4, _ => exact z_str4
  | 5, _ => exact z_str5
  | 6, _ => exact z_str6
  | 7, _ => exact z_str7
  | 8, _ => exact z_str8
  | 9, _ => exact z_str9
  | 10, _ => exact z_str10
  | 11, _ => exact z_str11
  | 12, _ => exact z_str12
  | 13, _ => exact z_str13
  | 14, _ => exact z_str14
  | 15, _ => exact z_str15
  | 16, _ => exact z_str16
  | 17, _ => exact z_str17
  | 18, _ => exact z_str18
  | 19, _ => exact z_str19
  | 20, _ => exact z_str20
  | 21, _ => exact z_str21
  | 22, _ => exact z_str22
  | 23, _ => exact z_str23
  | 24, _ => exact z_str24
  | 25, _ => exact z_str25
  | 26, _ => exact z_str26
  | i + 27, h => omega
end START
