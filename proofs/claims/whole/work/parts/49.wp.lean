/-! Laws by which simp walks a tree in one pass (each fires ahead of what stands behind it); frames; loops (written by wip/gen49.py) -/
section WP
theorem jIntg_0 (a0 : jV) (t : List jV) (P : Int → Prop) : jInt (jget (a0 :: t) 0) P = jInt a0 P := rfl
theorem jLngg_0 (a0 : jV) (t : List jV) (P : Int → Prop) : jLng (jget (a0 :: t) 0) P = jLng a0 P := rfl
theorem jRefg_0 (a0 : jV) (t : List jV) (P : Nat → Prop) : jRef (jget (a0 :: t) 0) P = jRef a0 P := rfl
theorem jAnyg_0 (a0 : jV) (t : List jV) (P : jV → Prop) : jAny (jget (a0 :: t) 0) P = jAny a0 P := rfl
theorem jStrg_0 (a0 : jV) (t : List jV) (P : Nat → Prop) : jStr (jget (a0 :: t) 0) P = jStr a0 P := rfl
theorem jPlsg_0 (a0 : jV) (t : List jV) (P : Option Nat → Prop) : jPls (jget (a0 :: t) 0) P = jPls a0 P := rfl
theorem jst_x0 (a0 v : jV) (t : List jV) (P : List jV → Prop) : (∃ M, jst (a0 :: t) 0 v = some M ∧ P M) = P (v :: t) := propext ⟨fun ⟨_, h, p⟩ => (by cases h; exact p), fun p => ⟨_, rfl, p⟩⟩
theorem jst2_x0 (a0 a1 v : jV) (t : List jV) (P : List jV → Prop) : (∃ M, jst2 (a0 :: a1 :: t) 0 v = some M ∧ P M) = P (v :: vU :: t) := propext ⟨fun ⟨_, h, p⟩ => (by rw [jst2_eq, if_pos (by simp only [List.length_cons]; omega)] at h; cases h; exact p), fun p => ⟨_, by rw [jst2_eq, if_pos (by simp only [List.length_cons]; omega)]; rfl, p⟩⟩
theorem jIntg_1 (a0 a1 : jV) (t : List jV) (P : Int → Prop) : jInt (jget (a0 :: a1 :: t) 1) P = jInt a1 P := rfl
theorem jLngg_1 (a0 a1 : jV) (t : List jV) (P : Int → Prop) : jLng (jget (a0 :: a1 :: t) 1) P = jLng a1 P := rfl
theorem jRefg_1 (a0 a1 : jV) (t : List jV) (P : Nat → Prop) : jRef (jget (a0 :: a1 :: t) 1) P = jRef a1 P := rfl
theorem jAnyg_1 (a0 a1 : jV) (t : List jV) (P : jV → Prop) : jAny (jget (a0 :: a1 :: t) 1) P = jAny a1 P := rfl
theorem jst_y1 (a0 a1 v : jV) (t : List jV) : jst (a0 :: a1 :: t) 1 v = if jisL a0 = true then none else some (a0 :: v :: t) := by
  rw [jst_1, jst_0]; rfl
theorem jst_x1 (a0 a1 v : jV) (t : List jV) (P : List jV → Prop) : (∃ M, jst (a0 :: a1 :: t) 1 v = some M ∧ P M) = (jisL a0 = false ∧ P (a0 :: v :: t)) := by
  rw [jst_y1]; cases jisL a0 with
  | true => exact propext ⟨fun ⟨_, h, _⟩ => (by cases h), fun ⟨h, _⟩ => (by cases h)⟩
  | false => exact propext ⟨fun ⟨_, h, p⟩ => (by cases h; exact ⟨rfl, p⟩), fun ⟨_, p⟩ => ⟨_, rfl, p⟩⟩
theorem jst2_x1 (a0 a1 w v : jV) (t : List jV) (P : List jV → Prop) : (∃ M, jst2 (a0 :: a1 :: w :: t) 1 v = some M ∧ P M) = (jisL a0 = false ∧ P (a0 :: v :: vU :: t)) := by
  rw [jst2_eq, if_pos (by simp only [List.length_cons]; omega), jst_y1]; cases jisL a0 with
  | true => exact propext ⟨fun ⟨_, h, _⟩ => (by cases h), fun ⟨h, _⟩ => (by cases h)⟩
  | false => exact propext ⟨fun ⟨_, h, p⟩ => (by cases h; exact ⟨rfl, p⟩), fun ⟨_, p⟩ => ⟨_, rfl, p⟩⟩
theorem jIntg_2 (a0 a1 a2 : jV) (t : List jV) (P : Int → Prop) : jInt (jget (a0 :: a1 :: a2 :: t) 2) P = jInt a2 P := rfl
theorem jLngg_2 (a0 a1 a2 : jV) (t : List jV) (P : Int → Prop) : jLng (jget (a0 :: a1 :: a2 :: t) 2) P = jLng a2 P := rfl
theorem jRefg_2 (a0 a1 a2 : jV) (t : List jV) (P : Nat → Prop) : jRef (jget (a0 :: a1 :: a2 :: t) 2) P = jRef a2 P := rfl
theorem jAnyg_2 (a0 a1 a2 : jV) (t : List jV) (P : jV → Prop) : jAny (jget (a0 :: a1 :: a2 :: t) 2) P = jAny a2 P := rfl
theorem jst_y2 (a0 a1 a2 v : jV) (t : List jV) : jst (a0 :: a1 :: a2 :: t) 2 v = if jisL a1 = true then none else some (a0 :: a1 :: v :: t) := by
  rw [jst_s, jst_1, jst_0]; cases jisL a1 <;> rfl
theorem jst_x2 (a0 a1 a2 v : jV) (t : List jV) (P : List jV → Prop) : (∃ M, jst (a0 :: a1 :: a2 :: t) 2 v = some M ∧ P M) = (jisL a1 = false ∧ P (a0 :: a1 :: v :: t)) := by
  rw [jst_y2]; cases jisL a1 with
  | true => exact propext ⟨fun ⟨_, h, _⟩ => (by cases h), fun ⟨h, _⟩ => (by cases h)⟩
  | false => exact propext ⟨fun ⟨_, h, p⟩ => (by cases h; exact ⟨rfl, p⟩), fun ⟨_, p⟩ => ⟨_, rfl, p⟩⟩
theorem jst2_x2 (a0 a1 a2 w v : jV) (t : List jV) (P : List jV → Prop) : (∃ M, jst2 (a0 :: a1 :: a2 :: w :: t) 2 v = some M ∧ P M) = (jisL a1 = false ∧ P (a0 :: a1 :: v :: vU :: t)) := by
  rw [jst2_eq, if_pos (by simp only [List.length_cons]; omega), jst_y2]; cases jisL a1 with
  | true => exact propext ⟨fun ⟨_, h, _⟩ => (by cases h), fun ⟨h, _⟩ => (by cases h)⟩
  | false => exact propext ⟨fun ⟨_, h, p⟩ => (by cases h; exact ⟨rfl, p⟩), fun ⟨_, p⟩ => ⟨_, rfl, p⟩⟩
theorem jIntg_3 (a0 a1 a2 a3 : jV) (t : List jV) (P : Int → Prop) : jInt (jget (a0 :: a1 :: a2 :: a3 :: t) 3) P = jInt a3 P := rfl
theorem jLngg_3 (a0 a1 a2 a3 : jV) (t : List jV) (P : Int → Prop) : jLng (jget (a0 :: a1 :: a2 :: a3 :: t) 3) P = jLng a3 P := rfl
theorem jRefg_3 (a0 a1 a2 a3 : jV) (t : List jV) (P : Nat → Prop) : jRef (jget (a0 :: a1 :: a2 :: a3 :: t) 3) P = jRef a3 P := rfl
theorem jAnyg_3 (a0 a1 a2 a3 : jV) (t : List jV) (P : jV → Prop) : jAny (jget (a0 :: a1 :: a2 :: a3 :: t) 3) P = jAny a3 P := rfl
theorem jst_y3 (a0 a1 a2 a3 v : jV) (t : List jV) : jst (a0 :: a1 :: a2 :: a3 :: t) 3 v = if jisL a2 = true then none else some (a0 :: a1 :: a2 :: v :: t) := by
  rw [jst_s, jst_s, jst_1, jst_0]; cases jisL a2 <;> rfl
theorem jst_x3 (a0 a1 a2 a3 v : jV) (t : List jV) (P : List jV → Prop) : (∃ M, jst (a0 :: a1 :: a2 :: a3 :: t) 3 v = some M ∧ P M) = (jisL a2 = false ∧ P (a0 :: a1 :: a2 :: v :: t)) := by
  rw [jst_y3]; cases jisL a2 with
  | true => exact propext ⟨fun ⟨_, h, _⟩ => (by cases h), fun ⟨h, _⟩ => (by cases h)⟩
  | false => exact propext ⟨fun ⟨_, h, p⟩ => (by cases h; exact ⟨rfl, p⟩), fun ⟨_, p⟩ => ⟨_, rfl, p⟩⟩
theorem jst2_x3 (a0 a1 a2 a3 w v : jV) (t : List jV) (P : List jV → Prop) : (∃ M, jst2 (a0 :: a1 :: a2 :: a3 :: w :: t) 3 v = some M ∧ P M) = (jisL a2 = false ∧ P (a0 :: a1 :: a2 :: v :: vU :: t)) := by
  rw [jst2_eq, if_pos (by simp only [List.length_cons]; omega), jst_y3]; cases jisL a2 with
  | true => exact propext ⟨fun ⟨_, h, _⟩ => (by cases h), fun ⟨h, _⟩ => (by cases h)⟩
  | false => exact propext ⟨fun ⟨_, h, p⟩ => (by cases h; exact ⟨rfl, p⟩), fun ⟨_, p⟩ => ⟨_, rfl, p⟩⟩
theorem jIntg_4 (a0 a1 a2 a3 a4 : jV) (t : List jV) (P : Int → Prop) : jInt (jget (a0 :: a1 :: a2 :: a3 :: a4 :: t) 4) P = jInt a4 P := rfl
theorem jLngg_4 (a0 a1 a2 a3 a4 : jV) (t : List jV) (P : Int → Prop) : jLng (jget (a0 :: a1 :: a2 :: a3 :: a4 :: t) 4) P = jLng a4 P := rfl
theorem jRefg_4 (a0 a1 a2 a3 a4 : jV) (t : List jV) (P : Nat → Prop) : jRef (jget (a0 :: a1 :: a2 :: a3 :: a4 :: t) 4) P = jRef a4 P := rfl
theorem jAnyg_4 (a0 a1 a2 a3 a4 : jV) (t : List jV) (P : jV → Prop) : jAny (jget (a0 :: a1 :: a2 :: a3 :: a4 :: t) 4) P = jAny a4 P := rfl
theorem jst_y4 (a0 a1 a2 a3 a4 v : jV) (t : List jV) : jst (a0 :: a1 :: a2 :: a3 :: a4 :: t) 4 v = if jisL a3 = true then none else some (a0 :: a1 :: a2 :: a3 :: v :: t) := by
  rw [jst_s, jst_s, jst_s, jst_1, jst_0]; cases jisL a3 <;> rfl
theorem jst_x4 (a0 a1 a2 a3 a4 v : jV) (t : List jV) (P : List jV → Prop) : (∃ M, jst (a0 :: a1 :: a2 :: a3 :: a4 :: t) 4 v = some M ∧ P M) = (jisL a3 = false ∧ P (a0 :: a1 :: a2 :: a3 :: v :: t)) := by
  rw [jst_y4]; cases jisL a3 with
  | true => exact propext ⟨fun ⟨_, h, _⟩ => (by cases h), fun ⟨h, _⟩ => (by cases h)⟩
  | false => exact propext ⟨fun ⟨_, h, p⟩ => (by cases h; exact ⟨rfl, p⟩), fun ⟨_, p⟩ => ⟨_, rfl, p⟩⟩
theorem jst2_x4 (a0 a1 a2 a3 a4 w v : jV) (t : List jV) (P : List jV → Prop) : (∃ M, jst2 (a0 :: a1 :: a2 :: a3 :: a4 :: w :: t) 4 v = some M ∧ P M) = (jisL a3 = false ∧ P (a0 :: a1 :: a2 :: a3 :: v :: vU :: t)) := by
  rw [jst2_eq, if_pos (by simp only [List.length_cons]; omega), jst_y4]; cases jisL a3 with
  | true => exact propext ⟨fun ⟨_, h, _⟩ => (by cases h), fun ⟨h, _⟩ => (by cases h)⟩
  | false => exact propext ⟨fun ⟨_, h, p⟩ => (by cases h; exact ⟨rfl, p⟩), fun ⟨_, p⟩ => ⟨_, rfl, p⟩⟩
theorem jIntg_5 (a0 a1 a2 a3 a4 a5 : jV) (t : List jV) (P : Int → Prop) : jInt (jget (a0 :: a1 :: a2 :: a3 :: a4 :: a5 :: t) 5) P = jInt a5 P := rfl
theorem jLngg_5 (a0 a1 a2 a3 a4 a5 : jV) (t : List jV) (P : Int → Prop) : jLng (jget (a0 :: a1 :: a2 :: a3 :: a4 :: a5 :: t) 5) P = jLng a5 P := rfl
theorem jRefg_5 (a0 a1 a2 a3 a4 a5 : jV) (t : List jV) (P : Nat → Prop) : jRef (jget (a0 :: a1 :: a2 :: a3 :: a4 :: a5 :: t) 5) P = jRef a5 P := rfl
theorem jAnyg_5 (a0 a1 a2 a3 a4 a5 : jV) (t : List jV) (P : jV → Prop) : jAny (jget (a0 :: a1 :: a2 :: a3 :: a4 :: a5 :: t) 5) P = jAny a5 P := rfl
theorem jst_y5 (a0 a1 a2 a3 a4 a5 v : jV) (t : List jV) : jst (a0 :: a1 :: a2 :: a3 :: a4 :: a5 :: t) 5 v = if jisL a4 = true then none else some (a0 :: a1 :: a2 :: a3 :: a4 :: v :: t) := by
  rw [jst_s, jst_s, jst_s, jst_s, jst_1, jst_0]; cases jisL a4 <;> rfl
theorem jst_x5 (a0 a1 a2 a3 a4 a5 v : jV) (t : List jV) (P : List jV → Prop) : (∃ M, jst (a0 :: a1 :: a2 :: a3 :: a4 :: a5 :: t) 5 v = some M ∧ P M) = (jisL a4 = false ∧ P (a0 :: a1 :: a2 :: a3 :: a4 :: v :: t)) := by
  rw [jst_y5]; cases jisL a4 with
  | true => exact propext ⟨fun ⟨_, h, _⟩ => (by cases h), fun ⟨h, _⟩ => (by cases h)⟩
  | false => exact propext ⟨fun ⟨_, h, p⟩ => (by cases h; exact ⟨rfl, p⟩), fun ⟨_, p⟩ => ⟨_, rfl, p⟩⟩
theorem jst2_x5 (a0 a1 a2 a3 a4 a5 w v : jV) (t : List jV) (P : List jV → Prop) : (∃ M, jst2 (a0 :: a1 :: a2 :: a3 :: a4 :: a5 :: w :: t) 5 v = some M ∧ P M) = (jisL a4 = false ∧ P (a0 :: a1 :: a2 :: a3 :: a4 :: v :: vU :: t)) := by
  rw [jst2_eq, if_pos (by simp only [List.length_cons]; omega), jst_y5]; cases jisL a4 with
  | true => exact propext ⟨fun ⟨_, h, _⟩ => (by cases h), fun ⟨h, _⟩ => (by cases h)⟩
  | false => exact propext ⟨fun ⟨_, h, p⟩ => (by cases h; exact ⟨rfl, p⟩), fun ⟨_, p⟩ => ⟨_, rfl, p⟩⟩
theorem jIntg_6 (a0 a1 a2 a3 a4 a5 a6 : jV) (t : List jV) (P : Int → Prop) : jInt (jget (a0 :: a1 :: a2 :: a3 :: a4 :: a5 :: a6 :: t) 6) P = jInt a6 P := rfl
theorem jLngg_6 (a0 a1 a2 a3 a4 a5 a6 : jV) (t : List jV) (P : Int → Prop) : jLng (jget (a0 :: a1 :: a2 :: a3 :: a4 :: a5 :: a6 :: t) 6) P = jLng a6 P := rfl
theorem jRefg_6 (a0 a1 a2 a3 a4 a5 a6 : jV) (t : List jV) (P : Nat → Prop) : jRef (jget (a0 :: a1 :: a2 :: a3 :: a4 :: a5 :: a6 :: t) 6) P = jRef a6 P := rfl
theorem jAnyg_6 (a0 a1 a2 a3 a4 a5 a6 : jV) (t : List jV) (P : jV → Prop) : jAny (jget (a0 :: a1 :: a2 :: a3 :: a4 :: a5 :: a6 :: t) 6) P = jAny a6 P := rfl
theorem jst_y6 (a0 a1 a2 a3 a4 a5 a6 v : jV) (t : List jV) : jst (a0 :: a1 :: a2 :: a3 :: a4 :: a5 :: a6 :: t) 6 v = if jisL a5 = true then none else some (a0 :: a1 :: a2 :: a3 :: a4 :: a5 :: v :: t) := by
  rw [jst_s, jst_s, jst_s, jst_s, jst_s, jst_1, jst_0]; cases jisL a5 <;> rfl
theorem jst_x6 (a0 a1 a2 a3 a4 a5 a6 v : jV) (t : List jV) (P : List jV → Prop) : (∃ M, jst (a0 :: a1 :: a2 :: a3 :: a4 :: a5 :: a6 :: t) 6 v = some M ∧ P M) = (jisL a5 = false ∧ P (a0 :: a1 :: a2 :: a3 :: a4 :: a5 :: v :: t)) := by
  rw [jst_y6]; cases jisL a5 with
  | true => exact propext ⟨fun ⟨_, h, _⟩ => (by cases h), fun ⟨h, _⟩ => (by cases h)⟩
  | false => exact propext ⟨fun ⟨_, h, p⟩ => (by cases h; exact ⟨rfl, p⟩), fun ⟨_, p⟩ => ⟨_, rfl, p⟩⟩
theorem jst2_x6 (a0 a1 a2 a3 a4 a5 a6 w v : jV) (t : List jV) (P : List jV → Prop) : (∃ M, jst2 (a0 :: a1 :: a2 :: a3 :: a4 :: a5 :: a6 :: w :: t) 6 v = some M ∧ P M) = (jisL a5 = false ∧ P (a0 :: a1 :: a2 :: a3 :: a4 :: a5 :: v :: vU :: t)) := by
  rw [jst2_eq, if_pos (by simp only [List.length_cons]; omega), jst_y6]; cases jisL a5 with
  | true => exact propext ⟨fun ⟨_, h, _⟩ => (by cases h), fun ⟨h, _⟩ => (by cases h)⟩
  | false => exact propext ⟨fun ⟨_, h, p⟩ => (by cases h; exact ⟨rfl, p⟩), fun ⟨_, p⟩ => ⟨_, rfl, p⟩⟩
theorem jIntg_7 (a0 a1 a2 a3 a4 a5 a6 a7 : jV) (t : List jV) (P : Int → Prop) : jInt (jget (a0 :: a1 :: a2 :: a3 :: a4 :: a5 :: a6 :: a7 :: t) 7) P = jInt a7 P := rfl
theorem jLngg_7 (a0 a1 a2 a3 a4 a5 a6 a7 : jV) (t : List jV) (P : Int → Prop) : jLng (jget (a0 :: a1 :: a2 :: a3 :: a4 :: a5 :: a6 :: a7 :: t) 7) P = jLng a7 P := rfl
theorem jRefg_7 (a0 a1 a2 a3 a4 a5 a6 a7 : jV) (t : List jV) (P : Nat → Prop) : jRef (jget (a0 :: a1 :: a2 :: a3 :: a4 :: a5 :: a6 :: a7 :: t) 7) P = jRef a7 P := rfl
theorem jAnyg_7 (a0 a1 a2 a3 a4 a5 a6 a7 : jV) (t : List jV) (P : jV → Prop) : jAny (jget (a0 :: a1 :: a2 :: a3 :: a4 :: a5 :: a6 :: a7 :: t) 7) P = jAny a7 P := rfl
theorem jst_y7 (a0 a1 a2 a3 a4 a5 a6 a7 v : jV) (t : List jV) : jst (a0 :: a1 :: a2 :: a3 :: a4 :: a5 :: a6 :: a7 :: t) 7 v = if jisL a6 = true then none else some (a0 :: a1 :: a2 :: a3 :: a4 :: a5 :: a6 :: v :: t) := by
  rw [jst_s, jst_s, jst_s, jst_s, jst_s, jst_s, jst_1, jst_0]; cases jisL a6 <;> rfl
theorem jst_x7 (a0 a1 a2 a3 a4 a5 a6 a7 v : jV) (t : List jV) (P : List jV → Prop) : (∃ M, jst (a0 :: a1 :: a2 :: a3 :: a4 :: a5 :: a6 :: a7 :: t) 7 v = some M ∧ P M) = (jisL a6 = false ∧ P (a0 :: a1 :: a2 :: a3 :: a4 :: a5 :: a6 :: v :: t)) := by
  rw [jst_y7]; cases jisL a6 with
  | true => exact propext ⟨fun ⟨_, h, _⟩ => (by cases h), fun ⟨h, _⟩ => (by cases h)⟩
  | false => exact propext ⟨fun ⟨_, h, p⟩ => (by cases h; exact ⟨rfl, p⟩), fun ⟨_, p⟩ => ⟨_, rfl, p⟩⟩
theorem jst2_x7 (a0 a1 a2 a3 a4 a5 a6 a7 w v : jV) (t : List jV) (P : List jV → Prop) : (∃ M, jst2 (a0 :: a1 :: a2 :: a3 :: a4 :: a5 :: a6 :: a7 :: w :: t) 7 v = some M ∧ P M) = (jisL a6 = false ∧ P (a0 :: a1 :: a2 :: a3 :: a4 :: a5 :: a6 :: v :: vU :: t)) := by
  rw [jst2_eq, if_pos (by simp only [List.length_cons]; omega), jst_y7]; cases jisL a6 with
  | true => exact propext ⟨fun ⟨_, h, _⟩ => (by cases h), fun ⟨h, _⟩ => (by cases h)⟩
  | false => exact propext ⟨fun ⟨_, h, p⟩ => (by cases h; exact ⟨rfl, p⟩), fun ⟨_, p⟩ => ⟨_, rfl, p⟩⟩
theorem jIntg_8 (a0 a1 a2 a3 a4 a5 a6 a7 a8 : jV) (t : List jV) (P : Int → Prop) : jInt (jget (a0 :: a1 :: a2 :: a3 :: a4 :: a5 :: a6 :: a7 :: a8 :: t) 8) P = jInt a8 P := rfl
theorem jLngg_8 (a0 a1 a2 a3 a4 a5 a6 a7 a8 : jV) (t : List jV) (P : Int → Prop) : jLng (jget (a0 :: a1 :: a2 :: a3 :: a4 :: a5 :: a6 :: a7 :: a8 :: t) 8) P = jLng a8 P := rfl
theorem jRefg_8 (a0 a1 a2 a3 a4 a5 a6 a7 a8 : jV) (t : List jV) (P : Nat → Prop) : jRef (jget (a0 :: a1 :: a2 :: a3 :: a4 :: a5 :: a6 :: a7 :: a8 :: t) 8) P = jRef a8 P := rfl
theorem jAnyg_8 (a0 a1 a2 a3 a4 a5 a6 a7 a8 : jV) (t : List jV) (P : jV → Prop) : jAny (jget (a0 :: a1 :: a2 :: a3 :: a4 :: a5 :: a6 :: a7 :: a8 :: t) 8) P = jAny a8 P := rfl
theorem jst_y8 (a0 a1 a2 a3 a4 a5 a6 a7 a8 v : jV) (t : List jV) : jst (a0 :: a1 :: a2 :: a3 :: a4 :: a5 :: a6 :: a7 :: a8 :: t) 8 v = if jisL a7 = true then none else some (a0 :: a1 :: a2 :: a3 :: a4 :: a5 :: a6 :: a7 :: v :: t) := by
  rw [jst_s, jst_s, jst_s, jst_s, jst_s, jst_s, jst_s, jst_1, jst_0]; cases jisL a7 <;> rfl
theorem jst_x8 (a0 a1 a2 a3 a4 a5 a6 a7 a8 v : jV) (t : List jV) (P : List jV → Prop) : (∃ M, jst (a0 :: a1 :: a2 :: a3 :: a4 :: a5 :: a6 :: a7 :: a8 :: t) 8 v = some M ∧ P M) = (jisL a7 = false ∧ P (a0 :: a1 :: a2 :: a3 :: a4 :: a5 :: a6 :: a7 :: v :: t)) := by
  rw [jst_y8]; cases jisL a7 with
  | true => exact propext ⟨fun ⟨_, h, _⟩ => (by cases h), fun ⟨h, _⟩ => (by cases h)⟩
  | false => exact propext ⟨fun ⟨_, h, p⟩ => (by cases h; exact ⟨rfl, p⟩), fun ⟨_, p⟩ => ⟨_, rfl, p⟩⟩
theorem jst2_x8 (a0 a1 a2 a3 a4 a5 a6 a7 a8 w v : jV) (t : List jV) (P : List jV → Prop) : (∃ M, jst2 (a0 :: a1 :: a2 :: a3 :: a4 :: a5 :: a6 :: a7 :: a8 :: w :: t) 8 v = some M ∧ P M) = (jisL a7 = false ∧ P (a0 :: a1 :: a2 :: a3 :: a4 :: a5 :: a6 :: a7 :: v :: vU :: t)) := by
  rw [jst2_eq, if_pos (by simp only [List.length_cons]; omega), jst_y8]; cases jisL a7 with
  | true => exact propext ⟨fun ⟨_, h, _⟩ => (by cases h), fun ⟨h, _⟩ => (by cases h)⟩
  | false => exact propext ⟨fun ⟨_, h, p⟩ => (by cases h; exact ⟨rfl, p⟩), fun ⟨_, p⟩ => ⟨_, rfl, p⟩⟩
theorem jIntg_9 (a0 a1 a2 a3 a4 a5 a6 a7 a8 a9 : jV) (t : List jV) (P : Int → Prop) : jInt (jget (a0 :: a1 :: a2 :: a3 :: a4 :: a5 :: a6 :: a7 :: a8 :: a9 :: t) 9) P = jInt a9 P := rfl
theorem jLngg_9 (a0 a1 a2 a3 a4 a5 a6 a7 a8 a9 : jV) (t : List jV) (P : Int → Prop) : jLng (jget (a0 :: a1 :: a2 :: a3 :: a4 :: a5 :: a6 :: a7 :: a8 :: a9 :: t) 9) P = jLng a9 P := rfl
theorem jRefg_9 (a0 a1 a2 a3 a4 a5 a6 a7 a8 a9 : jV) (t : List jV) (P : Nat → Prop) : jRef (jget (a0 :: a1 :: a2 :: a3 :: a4 :: a5 :: a6 :: a7 :: a8 :: a9 :: t) 9) P = jRef a9 P := rfl
theorem jAnyg_9 (a0 a1 a2 a3 a4 a5 a6 a7 a8 a9 : jV) (t : List jV) (P : jV → Prop) : jAny (jget (a0 :: a1 :: a2 :: a3 :: a4 :: a5 :: a6 :: a7 :: a8 :: a9 :: t) 9) P = jAny a9 P := rfl
theorem jst_y9 (a0 a1 a2 a3 a4 a5 a6 a7 a8 a9 v : jV) (t : List jV) : jst (a0 :: a1 :: a2 :: a3 :: a4 :: a5 :: a6 :: a7 :: a8 :: a9 :: t) 9 v = if jisL a8 = true then none else some (a0 :: a1 :: a2 :: a3 :: a4 :: a5 :: a6 :: a7 :: a8 :: v :: t) := by
  rw [jst_s, jst_s, jst_s, jst_s, jst_s, jst_s, jst_s, jst_s, jst_1, jst_0]; cases jisL a8 <;> rfl
theorem jst_x9 (a0 a1 a2 a3 a4 a5 a6 a7 a8 a9 v : jV) (t : List jV) (P : List jV → Prop) : (∃ M, jst (a0 :: a1 :: a2 :: a3 :: a4 :: a5 :: a6 :: a7 :: a8 :: a9 :: t) 9 v = some M ∧ P M) = (jisL a8 = false ∧ P (a0 :: a1 :: a2 :: a3 :: a4 :: a5 :: a6 :: a7 :: a8 :: v :: t)) := by
  rw [jst_y9]; cases jisL a8 with
  | true => exact propext ⟨fun ⟨_, h, _⟩ => (by cases h), fun ⟨h, _⟩ => (by cases h)⟩
  | false => exact propext ⟨fun ⟨_, h, p⟩ => (by cases h; exact ⟨rfl, p⟩), fun ⟨_, p⟩ => ⟨_, rfl, p⟩⟩
theorem jst2_x9 (a0 a1 a2 a3 a4 a5 a6 a7 a8 a9 w v : jV) (t : List jV) (P : List jV → Prop) : (∃ M, jst2 (a0 :: a1 :: a2 :: a3 :: a4 :: a5 :: a6 :: a7 :: a8 :: a9 :: w :: t) 9 v = some M ∧ P M) = (jisL a8 = false ∧ P (a0 :: a1 :: a2 :: a3 :: a4 :: a5 :: a6 :: a7 :: a8 :: v :: vU :: t)) := by
  rw [jst2_eq, if_pos (by simp only [List.length_cons]; omega), jst_y9]; cases jisL a8 with
  | true => exact propext ⟨fun ⟨_, h, _⟩ => (by cases h), fun ⟨h, _⟩ => (by cases h)⟩
  | false => exact propext ⟨fun ⟨_, h, p⟩ => (by cases h; exact ⟨rfl, p⟩), fun ⟨_, p⟩ => ⟨_, rfl, p⟩⟩
theorem jIntg_10 (a0 a1 a2 a3 a4 a5 a6 a7 a8 a9 a10 : jV) (t : List jV) (P : Int → Prop) : jInt (jget (a0 :: a1 :: a2 :: a3 :: a4 :: a5 :: a6 :: a7 :: a8 :: a9 :: a10 :: t) 10) P = jInt a10 P := rfl
theorem jLngg_10 (a0 a1 a2 a3 a4 a5 a6 a7 a8 a9 a10 : jV) (t : List jV) (P : Int → Prop) : jLng (jget (a0 :: a1 :: a2 :: a3 :: a4 :: a5 :: a6 :: a7 :: a8 :: a9 :: a10 :: t) 10) P = jLng a10 P := rfl
theorem jRefg_10 (a0 a1 a2 a3 a4 a5 a6 a7 a8 a9 a10 : jV) (t : List jV) (P : Nat → Prop) : jRef (jget (a0 :: a1 :: a2 :: a3 :: a4 :: a5 :: a6 :: a7 :: a8 :: a9 :: a10 :: t) 10) P = jRef a10 P := rfl
theorem jAnyg_10 (a0 a1 a2 a3 a4 a5 a6 a7 a8 a9 a10 : jV) (t : List jV) (P : jV → Prop) : jAny (jget (a0 :: a1 :: a2 :: a3 :: a4 :: a5 :: a6 :: a7 :: a8 :: a9 :: a10 :: t) 10) P = jAny a10 P := rfl
theorem jst_y10 (a0 a1 a2 a3 a4 a5 a6 a7 a8 a9 a10 v : jV) (t : List jV) : jst (a0 :: a1 :: a2 :: a3 :: a4 :: a5 :: a6 :: a7 :: a8 :: a9 :: a10 :: t) 10 v = if jisL a9 = true then none else some (a0 :: a1 :: a2 :: a3 :: a4 :: a5 :: a6 :: a7 :: a8 :: a9 :: v :: t) := by
  rw [jst_s, jst_s, jst_s, jst_s, jst_s, jst_s, jst_s, jst_s, jst_s, jst_1, jst_0]; cases jisL a9 <;> rfl
theorem jst_x10 (a0 a1 a2 a3 a4 a5 a6 a7 a8 a9 a10 v : jV) (t : List jV) (P : List jV → Prop) : (∃ M, jst (a0 :: a1 :: a2 :: a3 :: a4 :: a5 :: a6 :: a7 :: a8 :: a9 :: a10 :: t) 10 v = some M ∧ P M) = (jisL a9 = false ∧ P (a0 :: a1 :: a2 :: a3 :: a4 :: a5 :: a6 :: a7 :: a8 :: a9 :: v :: t)) := by
  rw [jst_y10]; cases jisL a9 with
  | true => exact propext ⟨fun ⟨_, h, _⟩ => (by cases h), fun ⟨h, _⟩ => (by cases h)⟩
  | false => exact propext ⟨fun ⟨_, h, p⟩ => (by cases h; exact ⟨rfl, p⟩), fun ⟨_, p⟩ => ⟨_, rfl, p⟩⟩
theorem jst2_x10 (a0 a1 a2 a3 a4 a5 a6 a7 a8 a9 a10 w v : jV) (t : List jV) (P : List jV → Prop) : (∃ M, jst2 (a0 :: a1 :: a2 :: a3 :: a4 :: a5 :: a6 :: a7 :: a8 :: a9 :: a10 :: w :: t) 10 v = some M ∧ P M) = (jisL a9 = false ∧ P (a0 :: a1 :: a2 :: a3 :: a4 :: a5 :: a6 :: a7 :: a8 :: a9 :: v :: vU :: t)) := by
  rw [jst2_eq, if_pos (by simp only [List.length_cons]; omega), jst_y10]; cases jisL a9 with
  | true => exact propext ⟨fun ⟨_, h, _⟩ => (by cases h), fun ⟨h, _⟩ => (by cases h)⟩
  | false => exact propext ⟨fun ⟨_, h, p⟩ => (by cases h; exact ⟨rfl, p⟩), fun ⟨_, p⟩ => ⟨_, rfl, p⟩⟩
theorem jIntg_11 (a0 a1 a2 a3 a4 a5 a6 a7 a8 a9 a10 a11 : jV) (t : List jV) (P : Int → Prop) : jInt (jget (a0 :: a1 :: a2 :: a3 :: a4 :: a5 :: a6 :: a7 :: a8 :: a9 :: a10 :: a11 :: t) 11) P = jInt a11 P := rfl
theorem jLngg_11 (a0 a1 a2 a3 a4 a5 a6 a7 a8 a9 a10 a11 : jV) (t : List jV) (P : Int → Prop) : jLng (jget (a0 :: a1 :: a2 :: a3 :: a4 :: a5 :: a6 :: a7 :: a8 :: a9 :: a10 :: a11 :: t) 11) P = jLng a11 P := rfl
theorem jRefg_11 (a0 a1 a2 a3 a4 a5 a6 a7 a8 a9 a10 a11 : jV) (t : List jV) (P : Nat → Prop) : jRef (jget (a0 :: a1 :: a2 :: a3 :: a4 :: a5 :: a6 :: a7 :: a8 :: a9 :: a10 :: a11 :: t) 11) P = jRef a11 P := rfl
theorem jAnyg_11 (a0 a1 a2 a3 a4 a5 a6 a7 a8 a9 a10 a11 : jV) (t : List jV) (P : jV → Prop) : jAny (jget (a0 :: a1 :: a2 :: a3 :: a4 :: a5 :: a6 :: a7 :: a8 :: a9 :: a10 :: a11 :: t) 11) P = jAny a11 P := rfl
theorem jst_y11 (a0 a1 a2 a3 a4 a5 a6 a7 a8 a9 a10 a11 v : jV) (t : List jV) : jst (a0 :: a1 :: a2 :: a3 :: a4 :: a5 :: a6 :: a7 :: a8 :: a9 :: a10 :: a11 :: t) 11 v = if jisL a10 = true then none else some (a0 :: a1 :: a2 :: a3 :: a4 :: a5 :: a6 :: a7 :: a8 :: a9 :: a10 :: v :: t) := by
  rw [jst_s, jst_s, jst_s, jst_s, jst_s, jst_s, jst_s, jst_s, jst_s, jst_s, jst_1, jst_0]; cases jisL a10 <;> rfl
theorem jst_x11 (a0 a1 a2 a3 a4 a5 a6 a7 a8 a9 a10 a11 v : jV) (t : List jV) (P : List jV → Prop) : (∃ M, jst (a0 :: a1 :: a2 :: a3 :: a4 :: a5 :: a6 :: a7 :: a8 :: a9 :: a10 :: a11 :: t) 11 v = some M ∧ P M) = (jisL a10 = false ∧ P (a0 :: a1 :: a2 :: a3 :: a4 :: a5 :: a6 :: a7 :: a8 :: a9 :: a10 :: v :: t)) := by
  rw [jst_y11]; cases jisL a10 with
  | true => exact propext ⟨fun ⟨_, h, _⟩ => (by cases h), fun ⟨h, _⟩ => (by cases h)⟩
  | false => exact propext ⟨fun ⟨_, h, p⟩ => (by cases h; exact ⟨rfl, p⟩), fun ⟨_, p⟩ => ⟨_, rfl, p⟩⟩
theorem jst2_x11 (a0 a1 a2 a3 a4 a5 a6 a7 a8 a9 a10 a11 w v : jV) (t : List jV) (P : List jV → Prop) : (∃ M, jst2 (a0 :: a1 :: a2 :: a3 :: a4 :: a5 :: a6 :: a7 :: a8 :: a9 :: a10 :: a11 :: w :: t) 11 v = some M ∧ P M) = (jisL a10 = false ∧ P (a0 :: a1 :: a2 :: a3 :: a4 :: a5 :: a6 :: a7 :: a8 :: a9 :: a10 :: v :: vU :: t)) := by
  rw [jst2_eq, if_pos (by simp only [List.length_cons]; omega), jst_y11]; cases jisL a10 with
  | true => exact propext ⟨fun ⟨_, h, _⟩ => (by cases h), fun ⟨h, _⟩ => (by cases h)⟩
  | false => exact propext ⟨fun ⟨_, h, p⟩ => (by cases h; exact ⟨rfl, p⟩), fun ⟨_, p⟩ => ⟨_, rfl, p⟩⟩
theorem jIntg_12 (a0 a1 a2 a3 a4 a5 a6 a7 a8 a9 a10 a11 a12 : jV) (t : List jV) (P : Int → Prop) : jInt (jget (a0 :: a1 :: a2 :: a3 :: a4 :: a5 :: a6 :: a7 :: a8 :: a9 :: a10 :: a11 :: a12 :: t) 12) P = jInt a12 P := rfl
theorem jLngg_12 (a0 a1 a2 a3 a4 a5 a6 a7 a8 a9 a10 a11 a12 : jV) (t : List jV) (P : Int → Prop) : jLng (jget (a0 :: a1 :: a2 :: a3 :: a4 :: a5 :: a6 :: a7 :: a8 :: a9 :: a10 :: a11 :: a12 :: t) 12) P = jLng a12 P := rfl
theorem jRefg_12 (a0 a1 a2 a3 a4 a5 a6 a7 a8 a9 a10 a11 a12 : jV) (t : List jV) (P : Nat → Prop) : jRef (jget (a0 :: a1 :: a2 :: a3 :: a4 :: a5 :: a6 :: a7 :: a8 :: a9 :: a10 :: a11 :: a12 :: t) 12) P = jRef a12 P := rfl
theorem jAnyg_12 (a0 a1 a2 a3 a4 a5 a6 a7 a8 a9 a10 a11 a12 : jV) (t : List jV) (P : jV → Prop) : jAny (jget (a0 :: a1 :: a2 :: a3 :: a4 :: a5 :: a6 :: a7 :: a8 :: a9 :: a10 :: a11 :: a12 :: t) 12) P = jAny a12 P := rfl
theorem jst_y12 (a0 a1 a2 a3 a4 a5 a6 a7 a8 a9 a10 a11 a12 v : jV) (t : List jV) : jst (a0 :: a1 :: a2 :: a3 :: a4 :: a5 :: a6 :: a7 :: a8 :: a9 :: a10 :: a11 :: a12 :: t) 12 v = if jisL a11 = true then none else some (a0 :: a1 :: a2 :: a3 :: a4 :: a5 :: a6 :: a7 :: a8 :: a9 :: a10 :: a11 :: v :: t) := by
  rw [jst_s, jst_s, jst_s, jst_s, jst_s, jst_s, jst_s, jst_s, jst_s, jst_s, jst_s, jst_1, jst_0]; cases jisL a11 <;> rfl
theorem jst_x12 (a0 a1 a2 a3 a4 a5 a6 a7 a8 a9 a10 a11 a12 v : jV) (t : List jV) (P : List jV → Prop) : (∃ M, jst (a0 :: a1 :: a2 :: a3 :: a4 :: a5 :: a6 :: a7 :: a8 :: a9 :: a10 :: a11 :: a12 :: t) 12 v = some M ∧ P M) = (jisL a11 = false ∧ P (a0 :: a1 :: a2 :: a3 :: a4 :: a5 :: a6 :: a7 :: a8 :: a9 :: a10 :: a11 :: v :: t)) := by
  rw [jst_y12]; cases jisL a11 with
  | true => exact propext ⟨fun ⟨_, h, _⟩ => (by cases h), fun ⟨h, _⟩ => (by cases h)⟩
  | false => exact propext ⟨fun ⟨_, h, p⟩ => (by cases h; exact ⟨rfl, p⟩), fun ⟨_, p⟩ => ⟨_, rfl, p⟩⟩
theorem jst2_x12 (a0 a1 a2 a3 a4 a5 a6 a7 a8 a9 a10 a11 a12 w v : jV) (t : List jV) (P : List jV → Prop) : (∃ M, jst2 (a0 :: a1 :: a2 :: a3 :: a4 :: a5 :: a6 :: a7 :: a8 :: a9 :: a10 :: a11 :: a12 :: w :: t) 12 v = some M ∧ P M) = (jisL a11 = false ∧ P (a0 :: a1 :: a2 :: a3 :: a4 :: a5 :: a6 :: a7 :: a8 :: a9 :: a10 :: a11 :: v :: vU :: t)) := by
  rw [jst2_eq, if_pos (by simp only [List.length_cons]; omega), jst_y12]; cases jisL a11 with
  | true => exact propext ⟨fun ⟨_, h, _⟩ => (by cases h), fun ⟨h, _⟩ => (by cases h)⟩
  | false => exact propext ⟨fun ⟨_, h, p⟩ => (by cases h; exact ⟨rfl, p⟩), fun ⟨_, p⟩ => ⟨_, rfl, p⟩⟩
theorem jIntg_13 (a0 a1 a2 a3 a4 a5 a6 a7 a8 a9 a10 a11 a12 a13 : jV) (t : List jV) (P : Int → Prop) : jInt (jget (a0 :: a1 :: a2 :: a3 :: a4 :: a5 :: a6 :: a7 :: a8 :: a9 :: a10 :: a11 :: a12 :: a13 :: t) 13) P = jInt a13 P := rfl
theorem jLngg_13 (a0 a1 a2 a3 a4 a5 a6 a7 a8 a9 a10 a11 a12 a13 : jV) (t : List jV) (P : Int → Prop) : jLng (jget (a0 :: a1 :: a2 :: a3 :: a4 :: a5 :: a6 :: a7 :: a8 :: a9 :: a10 :: a11 :: a12 :: a13 :: t) 13) P = jLng a13 P := rfl
theorem jRefg_13 (a0 a1 a2 a3 a4 a5 a6 a7 a8 a9 a10 a11 a12 a13 : jV) (t : List jV) (P : Nat → Prop) : jRef (jget (a0 :: a1 :: a2 :: a3 :: a4 :: a5 :: a6 :: a7 :: a8 :: a9 :: a10 :: a11 :: a12 :: a13 :: t) 13) P = jRef a13 P := rfl
theorem jAnyg_13 (a0 a1 a2 a3 a4 a5 a6 a7 a8 a9 a10 a11 a12 a13 : jV) (t : List jV) (P : jV → Prop) : jAny (jget (a0 :: a1 :: a2 :: a3 :: a4 :: a5 :: a6 :: a7 :: a8 :: a9 :: a10 :: a11 :: a12 :: a13 :: t) 13) P = jAny a13 P := rfl
theorem jst_y13 (a0 a1 a2 a3 a4 a5 a6 a7 a8 a9 a10 a11 a12 a13 v : jV) (t : List jV) : jst (a0 :: a1 :: a2 :: a3 :: a4 :: a5 :: a6 :: a7 :: a8 :: a9 :: a10 :: a11 :: a12 :: a13 :: t) 13 v = if jisL a12 = true then none else some (a0 :: a1 :: a2 :: a3 :: a4 :: a5 :: a6 :: a7 :: a8 :: a9 :: a10 :: a11 :: a12 :: v :: t) := by
  rw [jst_s, jst_s, jst_s, jst_s, jst_s, jst_s, jst_s, jst_s, jst_s, jst_s, jst_s, jst_s, jst_1, jst_0]; cases jisL a12 <;> rfl
theorem jst_x13 (a0 a1 a2 a3 a4 a5 a6 a7 a8 a9 a10 a11 a12 a13 v : jV) (t : List jV) (P : List jV → Prop) : (∃ M, jst (a0 :: a1 :: a2 :: a3 :: a4 :: a5 :: a6 :: a7 :: a8 :: a9 :: a10 :: a11 :: a12 :: a13 :: t) 13 v = some M ∧ P M) = (jisL a12 = false ∧ P (a0 :: a1 :: a2 :: a3 :: a4 :: a5 :: a6 :: a7 :: a8 :: a9 :: a10 :: a11 :: a12 :: v :: t)) := by
  rw [jst_y13]; cases jisL a12 with
  | true => exact propext ⟨fun ⟨_, h, _⟩ => (by cases h), fun ⟨h, _⟩ => (by cases h)⟩
  | false => exact propext ⟨fun ⟨_, h, p⟩ => (by cases h; exact ⟨rfl, p⟩), fun ⟨_, p⟩ => ⟨_, rfl, p⟩⟩
theorem jst2_x13 (a0 a1 a2 a3 a4 a5 a6 a7 a8 a9 a10 a11 a12 a13 w v : jV) (t : List jV) (P : List jV → Prop) : (∃ M, jst2 (a0 :: a1 :: a2 :: a3 :: a4 :: a5 :: a6 :: a7 :: a8 :: a9 :: a10 :: a11 :: a12 :: a13 :: w :: t) 13 v = some M ∧ P M) = (jisL a12 = false ∧ P (a0 :: a1 :: a2 :: a3 :: a4 :: a5 :: a6 :: a7 :: a8 :: a9 :: a10 :: a11 :: a12 :: v :: vU :: t)) := by
  rw [jst2_eq, if_pos (by simp only [List.length_cons]; omega), jst_y13]; cases jisL a12 with
  | true => exact propext ⟨fun ⟨_, h, _⟩ => (by cases h), fun ⟨h, _⟩ => (by cases h)⟩
  | false => exact propext ⟨fun ⟨_, h, p⟩ => (by cases h; exact ⟨rfl, p⟩), fun ⟨_, p⟩ => ⟨_, rfl, p⟩⟩
theorem jIntg_14 (a0 a1 a2 a3 a4 a5 a6 a7 a8 a9 a10 a11 a12 a13 a14 : jV) (t : List jV) (P : Int → Prop) : jInt (jget (a0 :: a1 :: a2 :: a3 :: a4 :: a5 :: a6 :: a7 :: a8 :: a9 :: a10 :: a11 :: a12 :: a13 :: a14 :: t) 14) P = jInt a14 P := rfl
theorem jLngg_14 (a0 a1 a2 a3 a4 a5 a6 a7 a8 a9 a10 a11 a12 a13 a14 : jV) (t : List jV) (P : Int → Prop) : jLng (jget (a0 :: a1 :: a2 :: a3 :: a4 :: a5 :: a6 :: a7 :: a8 :: a9 :: a10 :: a11 :: a12 :: a13 :: a14 :: t) 14) P = jLng a14 P := rfl
theorem jRefg_14 (a0 a1 a2 a3 a4 a5 a6 a7 a8 a9 a10 a11 a12 a13 a14 : jV) (t : List jV) (P : Nat → Prop) : jRef (jget (a0 :: a1 :: a2 :: a3 :: a4 :: a5 :: a6 :: a7 :: a8 :: a9 :: a10 :: a11 :: a12 :: a13 :: a14 :: t) 14) P = jRef a14 P := rfl
theorem jAnyg_14 (a0 a1 a2 a3 a4 a5 a6 a7 a8 a9 a10 a11 a12 a13 a14 : jV) (t : List jV) (P : jV → Prop) : jAny (jget (a0 :: a1 :: a2 :: a3 :: a4 :: a5 :: a6 :: a7 :: a8 :: a9 :: a10 :: a11 :: a12 :: a13 :: a14 :: t) 14) P = jAny a14 P := rfl
theorem jst_y14 (a0 a1 a2 a3 a4 a5 a6 a7 a8 a9 a10 a11 a12 a13 a14 v : jV) (t : List jV) : jst (a0 :: a1 :: a2 :: a3 :: a4 :: a5 :: a6 :: a7 :: a8 :: a9 :: a10 :: a11 :: a12 :: a13 :: a14 :: t) 14 v = if jisL a13 = true then none else some (a0 :: a1 :: a2 :: a3 :: a4 :: a5 :: a6 :: a7 :: a8 :: a9 :: a10 :: a11 :: a12 :: a13 :: v :: t) := by
  rw [jst_s, jst_s, jst_s, jst_s, jst_s, jst_s, jst_s, jst_s, jst_s, jst_s, jst_s, jst_s, jst_s, jst_1, jst_0]; cases jisL a13 <;> rfl
theorem jst_x14 (a0 a1 a2 a3 a4 a5 a6 a7 a8 a9 a10 a11 a12 a13 a14 v : jV) (t : List jV) (P : List jV → Prop) : (∃ M, jst (a0 :: a1 :: a2 :: a3 :: a4 :: a5 :: a6 :: a7 :: a8 :: a9 :: a10 :: a11 :: a12 :: a13 :: a14 :: t) 14 v = some M ∧ P M) = (jisL a13 = false ∧ P (a0 :: a1 :: a2 :: a3 :: a4 :: a5 :: a6 :: a7 :: a8 :: a9 :: a10 :: a11 :: a12 :: a13 :: v :: t)) := by
  rw [jst_y14]; cases jisL a13 with
  | true => exact propext ⟨fun ⟨_, h, _⟩ => (by cases h), fun ⟨h, _⟩ => (by cases h)⟩
  | false => exact propext ⟨fun ⟨_, h, p⟩ => (by cases h; exact ⟨rfl, p⟩), fun ⟨_, p⟩ => ⟨_, rfl, p⟩⟩
theorem jst2_x14 (a0 a1 a2 a3 a4 a5 a6 a7 a8 a9 a10 a11 a12 a13 a14 w v : jV) (t : List jV) (P : List jV → Prop) : (∃ M, jst2 (a0 :: a1 :: a2 :: a3 :: a4 :: a5 :: a6 :: a7 :: a8 :: a9 :: a10 :: a11 :: a12 :: a13 :: a14 :: w :: t) 14 v = some M ∧ P M) = (jisL a13 = false ∧ P (a0 :: a1 :: a2 :: a3 :: a4 :: a5 :: a6 :: a7 :: a8 :: a9 :: a10 :: a11 :: a12 :: a13 :: v :: vU :: t)) := by
  rw [jst2_eq, if_pos (by simp only [List.length_cons]; omega), jst_y14]; cases jisL a13 with
  | true => exact propext ⟨fun ⟨_, h, _⟩ => (by cases h), fun ⟨h, _⟩ => (by cases h)⟩
  | false => exact propext ⟨fun ⟨_, h, p⟩ => (by cases h; exact ⟨rfl, p⟩), fun ⟨_, p⟩ => ⟨_, rfl, p⟩⟩
theorem jPls_pv (x : Option Nat) (P : Option Nat → Prop) : jPls (jpv x) P = P x := by cases x <;> rfl
theorem nat1 (i : Nat) : (i : Int) + 1 = ((i + 1 : Nat) : Int) := rfl
theorem rV_inj (a b : jV) : (rV a = rV b) = (a = b) := propext ⟨fun h => by cases h; rfl, fun h => by rw [h]⟩
theorem vI_inj (a b : Int) : (vI a = vI b) = (a = b) := propext ⟨fun h => by cases h; rfl, fun h => by rw [h]⟩
theorem vL_inj (a b : Int) : (vL a = vL b) = (a = b) := propext ⟨fun h => by cases h; rfl, fun h => by rw [h]⟩
theorem nat0 : ((0 : Nat) : Int) = 0 := rfl
/-- a loop: its state is an x, whose locals are L x, of which P x holds; each turn makes μ less -/
theorem tLoop_by {α : Type} (μ : α → Nat) (Lf : α → List jV) (P : α → jH → Prop) {c : jC} {b u : jS} {sc : jSc} {C : jCR} {N B K : jN} {R : jR → jH → Prop} {σ : jH} (x : α) (hP : P x σ)
    (hs : ∀ x σ (N' : jN), P x σ → (∀ y τ, μ y < μ x → P y τ → N' (Lf y) τ) → c sc C (Lf x) (fun σ => b sc C (fun L σ => u sc C N' (fun _ _ => False) (fun _ _ => False) R L σ) N (fun L σ => u sc C N' (fun _ _ => False) (fun _ _ => False) R L σ) R (Lf x) σ) (fun σ => N (Lf x) σ) σ) : tLoop c b u sc C N B K R (Lf x) σ := by
  refine tLoop_run (fun n L τ => ∃ y, L = Lf y ∧ P y τ ∧ μ y < n) (μ x + 1) ⟨x, rfl, hP, Nat.lt_succ_self _⟩ (fun L τ h => by obtain ⟨y, _, _, h⟩ := h; omega) ?_
  rintro n N' L τ hN ⟨y, rfl, hy, hm⟩
  exact hs y τ N' hy (fun z υ hz hp => hN _ _ ⟨z, rfl, hp, by omega⟩)
/-- the same, with the locals given apart -/
theorem tLoop_at {α : Type} (μ : α → Nat) (Lf : α → List jV) (P : α → jH → Prop) {c : jC} {b u : jS} {sc : jSc} {C : jCR} {N B K : jN} {R : jR → jH → Prop} {L : List jV} {σ : jH} (x : α) (hL : Lf x = L) (hP : P x σ)
    (hs : ∀ x σ (N' : jN), P x σ → (∀ y τ, μ y < μ x → P y τ → N' (Lf y) τ) → c sc C (Lf x) (fun σ => b sc C (fun L σ => u sc C N' (fun _ _ => False) (fun _ _ => False) R L σ) N (fun L σ => u sc C N' (fun _ _ => False) (fun _ _ => False) R L σ) R (Lf x) σ) (fun σ => N (Lf x) σ) σ) : tLoop c b u sc C N B K R L σ := by
  subst hL
  exact tLoop_by μ Lf P x hP hs
/-- the same; what stands behind the loop is shown once, from the states E in which it is left -/
theorem tLoop_go {α : Type} (μ : α → Nat) (Lf : α → List jV) (P E : α → jH → Prop) {c : jC} {b u : jS} {sc : jSc} {C : jCR} {N B K : jN} {R : jR → jH → Prop} {L : List jV} {σ : jH} (x : α) (hL : Lf x = L) (hP : P x σ)
    (hs : ∀ x σ (N' N : jN), P x σ → (∀ y τ, μ y < μ x → P y τ → N' (Lf y) τ) → (∀ y τ, E y τ → N (Lf y) τ) → c sc C (Lf x) (fun σ => b sc C (fun L σ => u sc C N' (fun _ _ => False) (fun _ _ => False) R L σ) N (fun L σ => u sc C N' (fun _ _ => False) (fun _ _ => False) R L σ) R (Lf x) σ) (fun σ => N (Lf x) σ) σ)
    (hE : ∀ x τ, E x τ → N (Lf x) τ) : tLoop c b u sc C N B K R L σ := by
  subst hL
  exact tLoop_by μ Lf P x hP (fun x σ N' hp hn => hs x σ N' N hp hn hE)
/-- nothing but what S names is changed -/
def Fr (S : Nat → Nat → Prop) (σ τ : jH) : Prop := hsh τ = hsh σ ∧ hp τ = hp σ ∧ (∀ r k, ¬ S r k → hi τ r k = hi σ r k) ∧ (∀ r k, ¬ S r k → hl τ r k = hl σ r k)
section
variable {S S' : Nat → Nat → Prop} {σ τ υ : jH}
theorem Fr.sh (h : Fr S σ τ) : hsh τ = hsh σ := h.1
theorem Fr.hp (h : Fr S σ τ) : hp τ = hp σ := h.2.1
theorem Fr.i (h : Fr S σ τ) {r k : Nat} (hk : ¬ S r k) : hi τ r k = hi σ r k := h.2.2.1 r k hk
theorem Fr.l (h : Fr S σ τ) {r k : Nat} (hk : ¬ S r k) : hl τ r k = hl σ r k := h.2.2.2 r k hk
theorem Fr.ir (h : Fr S σ τ) {r : Nat} (hk : ∀ k, ¬ S r k) : hi τ r = hi σ r := funext (fun k => h.2.2.1 r k (hk k))
theorem Fr.lr (h : Fr S σ τ) {r : Nat} (hk : ∀ k, ¬ S r k) : hl τ r = hl σ r := funext (fun k => h.2.2.2 r k (hk k))
theorem Fr.refl (S : Nat → Nat → Prop) (σ : jH) : Fr S σ σ := ⟨rfl, rfl, fun _ _ _ => rfl, fun _ _ _ => rfl⟩
theorem Fr.trans (h : Fr S σ τ) (h' : Fr S τ υ) : Fr S σ υ := ⟨h'.1.trans h.1, h'.2.1.trans h.2.1, fun r k hk => (h'.2.2.1 r k hk).trans (h.2.2.1 r k hk), fun r k hk => (h'.2.2.2 r k hk).trans (h.2.2.2 r k hk)⟩
theorem Fr.mono (h : Fr S σ τ) (hs : ∀ r k, S r k → S' r k) : Fr S' σ τ := ⟨h.1, h.2.1, fun r k hk => h.2.2.1 r k (fun q => hk (hs r k q)), fun r k hk => h.2.2.2 r k (fun q => hk (hs r k q))⟩
theorem Fr.si (h : Fr S σ τ) {r k : Nat} {z : Int} (hk : S r k) : Fr S σ (hsi τ r k z) := ⟨h.1, h.2.1, fun a b hb => by
  rw [hi_si, if_neg (fun q => hb (by rw [q.1, q.2]; exact hk))]; exact h.2.2.1 a b hb, fun a b hb => by rw [hl_si]; exact h.2.2.2 a b hb⟩
theorem Fr.sl (h : Fr S σ τ) {r k : Nat} {z : Int} (hk : S r k) : Fr S σ (hsl τ r k z) := ⟨h.1, h.2.1, fun a b hb => by rw [hi_sl]; exact h.2.2.1 a b hb, fun a b hb => by
  rw [hl_sl, if_neg (fun q => hb (by rw [q.1, q.2]; exact hk))]; exact h.2.2.2 a b hb⟩
theorem Fr.sr (h : Fr S σ τ) {r : Nat} {f : Nat → Int} (hk : ∀ k, S r k) : Fr S σ (hsr τ r f) := ⟨h.1, h.2.1, fun a b hb => by
  rw [hi_sr, if_neg (fun q => hb (by rw [q]; exact hk b))]; exact h.2.2.1 a b hb, fun a b hb => by rw [hl_sr]; exact h.2.2.2 a b hb⟩
theorem Fr.ci (h : Fr S σ τ) {a sp b dp n : Nat} (hk : ∀ k, dp ≤ k → k < dp + n → S b k) : Fr S σ (hci τ a sp b dp n) := ⟨h.1, h.2.1, fun r k hb => by
  rw [hi_ci, if_neg (fun q => hb (by rw [q.1]; exact hk k q.2.1 q.2.2))]; exact h.2.2.1 r k hb, fun r k hb => by rw [hl_ci]; exact h.2.2.2 r k hb⟩
theorem Fr.cl (h : Fr S σ τ) {a sp b dp n : Nat} (hk : ∀ k, dp ≤ k → k < dp + n → S b k) : Fr S σ (hcl τ a sp b dp n) := ⟨h.1, h.2.1, fun r k hb => by rw [hi_cl]; exact h.2.2.1 r k hb, fun r k hb => by
  rw [hl_cl, if_neg (fun q => hb (by rw [q.1]; exact hk k q.2.1 q.2.2))]; exact h.2.2.2 r k hb⟩
theorem Fr.ok (h : Fr S σ τ) (hO : Ok σ) : Ok τ := by
  unfold Ok
  rw [h.1, h.2.1]
  exact hO
end
end WP
