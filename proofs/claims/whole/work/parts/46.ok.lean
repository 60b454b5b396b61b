/-! The cells that stand fixed: what each is, what points where (written by wip/gen46.py) -/
section OK
def okSh : List (Nat × Nat) := [(14, 0), (11, 0), (0, 600), (6, 0), (0, 150), (0, 150), (0, 8), (0, 32), (0, 576), (4, 0), (0, 12), (0, 12), (10, 0), (0, 150), (0, 150), (0, 150), (0, 6), (0, 6), (3, 0), (1, 32), (0, 32), (0, 5), (8, 0), (1, 256), (5, 0), (0, 8), (0, 4), (9, 0), (12, 0), (0, 8), (0, 8), (0, 12), (1, 12), (2, 3), (13, 0), (0, 8), (0, 8), (0, 8), (0, 8), (0, 64), (0, 12), (0, 4), (0, 27), (7, 0), (0, 8), (0, 8), (13, 0), (0, 8), (0, 8), (0, 8), (0, 8), (0, 64), (0, 12), (0, 4), (0, 27), (7, 0), (0, 8), (0, 8), (12, 0), (0, 8), (0, 8), (0, 12), (1, 12), (15, 0), (0, 2), (0, 600), (0, 32), (0, 64), (0, 12), (0, 4), (0, 27), (0, 8), (0, 32), (0, 64), (0, 12), (0, 4), (0, 27), (0, 8), (0, 150), (0, 150), (0, 150), (0, 150), (0, 150), (0, 8), (0, 150), (0, 150), (0, 171), (0, 171), (0, 2736), (0, 12), (0, 12), (0, 8), (0, 8), (0, 256), (0, 8), (0, 8), (0, 8), (0, 4), (0, 251), (0, 251), (0, 7), (0, 8724), (1, 1)]
def okPt : List (Nat × Nat × Nat) := [(0, 0, 1), (1, 0, 2), (0, 1, 3), (3, 0, 4), (3, 1, 5), (3, 2, 6), (3, 3, 7), (3, 4, 8), (0, 2, 9), (9, 0, 10), (9, 1, 11), (0, 3, 12), (12, 0, 13), (12, 1, 14), (12, 2, 15), (12, 3, 16), (12, 4, 17), (0, 4, 18), (18, 0, 19), (18, 1, 20), (18, 2, 21), (0, 5, 22), (22, 0, 23), (0, 6, 24), (24, 0, 25), (24, 1, 26), (0, 7, 27), (27, 0, 28), (28, 0, 29), (28, 1, 30), (28, 2, 31), (28, 3, 32), (0, 8, 33), (34, 0, 35), (34, 1, 36), (34, 2, 37), (34, 3, 38), (34, 4, 39), (34, 5, 40), (34, 6, 41), (34, 7, 42), (34, 8, 43), (43, 0, 44), (43, 1, 45), (46, 0, 47), (46, 1, 48), (46, 2, 49), (46, 3, 50), (46, 4, 51), (46, 5, 52), (46, 6, 53), (46, 7, 54), (46, 8, 55), (55, 0, 56), (55, 1, 57), (58, 0, 59), (58, 1, 60), (58, 2, 61), (58, 3, 62), (63, 1, 64), (63, 9, 65), (63, 10, 66), (63, 11, 67), (63, 12, 68), (63, 13, 69), (63, 14, 70), (63, 15, 71), (63, 16, 72), (63, 17, 73), (63, 18, 74), (63, 19, 75), (63, 20, 76), (63, 21, 77), (63, 36, 78), (63, 37, 79), (63, 38, 80), (63, 39, 81), (63, 40, 82), (63, 43, 83), (63, 44, 84), (63, 45, 85), (63, 52, 86), (63, 53, 87), (63, 54, 88), (63, 57, 89), (63, 58, 90), (63, 60, 91), (63, 61, 92), (63, 63, 93), (63, 64, 94), (63, 65, 95), (63, 66, 96), (63, 67, 97), (63, 69, 98), (63, 70, 99), (63, 71, 100), (63, 75, 101)]
/-- the fixed cells stand as they were made -/
def Okk (s : List (Nat × Nat)) (p : Nat → Nat → Option Nat) : Prop := (∀ (i : Nat) (q : Nat × Nat), okSh[i]? = some q → s[i]? = some q) ∧ (∀ x ∈ okPt, p x.1 x.2.1 = some x.2.2)
def Ok (σ : jH) : Prop := Okk (hsh σ) (hp σ)
theorem oS0 {σ : jH} (h : Ok σ) : (hsh σ)[0]? = some (14, 0) := h.1 0 _ rfl
theorem oS1 {σ : jH} (h : Ok σ) : (hsh σ)[1]? = some (11, 0) := h.1 1 _ rfl
theorem oS2 {σ : jH} (h : Ok σ) : (hsh σ)[2]? = some (0, 600) := h.1 2 _ rfl
theorem oS3 {σ : jH} (h : Ok σ) : (hsh σ)[3]? = some (6, 0) := h.1 3 _ rfl
theorem oS4 {σ : jH} (h : Ok σ) : (hsh σ)[4]? = some (0, 150) := h.1 4 _ rfl
theorem oS5 {σ : jH} (h : Ok σ) : (hsh σ)[5]? = some (0, 150) := h.1 5 _ rfl
theorem oS6 {σ : jH} (h : Ok σ) : (hsh σ)[6]? = some (0, 8) := h.1 6 _ rfl
theorem oS7 {σ : jH} (h : Ok σ) : (hsh σ)[7]? = some (0, 32) := h.1 7 _ rfl
theorem oS8 {σ : jH} (h : Ok σ) : (hsh σ)[8]? = some (0, 576) := h.1 8 _ rfl
theorem oS9 {σ : jH} (h : Ok σ) : (hsh σ)[9]? = some (4, 0) := h.1 9 _ rfl
theorem oS10 {σ : jH} (h : Ok σ) : (hsh σ)[10]? = some (0, 12) := h.1 10 _ rfl
theorem oS11 {σ : jH} (h : Ok σ) : (hsh σ)[11]? = some (0, 12) := h.1 11 _ rfl
theorem oS12 {σ : jH} (h : Ok σ) : (hsh σ)[12]? = some (10, 0) := h.1 12 _ rfl
theorem oS13 {σ : jH} (h : Ok σ) : (hsh σ)[13]? = some (0, 150) := h.1 13 _ rfl
theorem oS14 {σ : jH} (h : Ok σ) : (hsh σ)[14]? = some (0, 150) := h.1 14 _ rfl
theorem oS15 {σ : jH} (h : Ok σ) : (hsh σ)[15]? = some (0, 150) := h.1 15 _ rfl
theorem oS16 {σ : jH} (h : Ok σ) : (hsh σ)[16]? = some (0, 6) := h.1 16 _ rfl
theorem oS17 {σ : jH} (h : Ok σ) : (hsh σ)[17]? = some (0, 6) := h.1 17 _ rfl
theorem oS18 {σ : jH} (h : Ok σ) : (hsh σ)[18]? = some (3, 0) := h.1 18 _ rfl
theorem oS19 {σ : jH} (h : Ok σ) : (hsh σ)[19]? = some (1, 32) := h.1 19 _ rfl
theorem oS20 {σ : jH} (h : Ok σ) : (hsh σ)[20]? = some (0, 32) := h.1 20 _ rfl
theorem oS21 {σ : jH} (h : Ok σ) : (hsh σ)[21]? = some (0, 5) := h.1 21 _ rfl
theorem oS22 {σ : jH} (h : Ok σ) : (hsh σ)[22]? = some (8, 0) := h.1 22 _ rfl
theorem oS23 {σ : jH} (h : Ok σ) : (hsh σ)[23]? = some (1, 256) := h.1 23 _ rfl
theorem oS24 {σ : jH} (h : Ok σ) : (hsh σ)[24]? = some (5, 0) := h.1 24 _ rfl
theorem oS25 {σ : jH} (h : Ok σ) : (hsh σ)[25]? = some (0, 8) := h.1 25 _ rfl
theorem oS26 {σ : jH} (h : Ok σ) : (hsh σ)[26]? = some (0, 4) := h.1 26 _ rfl
theorem oS27 {σ : jH} (h : Ok σ) : (hsh σ)[27]? = some (9, 0) := h.1 27 _ rfl
theorem oS28 {σ : jH} (h : Ok σ) : (hsh σ)[28]? = some (12, 0) := h.1 28 _ rfl
theorem oS29 {σ : jH} (h : Ok σ) : (hsh σ)[29]? = some (0, 8) := h.1 29 _ rfl
theorem oS30 {σ : jH} (h : Ok σ) : (hsh σ)[30]? = some (0, 8) := h.1 30 _ rfl
theorem oS31 {σ : jH} (h : Ok σ) : (hsh σ)[31]? = some (0, 12) := h.1 31 _ rfl
theorem oS32 {σ : jH} (h : Ok σ) : (hsh σ)[32]? = some (1, 12) := h.1 32 _ rfl
theorem oS33 {σ : jH} (h : Ok σ) : (hsh σ)[33]? = some (2, 3) := h.1 33 _ rfl
theorem oS34 {σ : jH} (h : Ok σ) : (hsh σ)[34]? = some (13, 0) := h.1 34 _ rfl
theorem oS35 {σ : jH} (h : Ok σ) : (hsh σ)[35]? = some (0, 8) := h.1 35 _ rfl
theorem oS36 {σ : jH} (h : Ok σ) : (hsh σ)[36]? = some (0, 8) := h.1 36 _ rfl
theorem oS37 {σ : jH} (h : Ok σ) : (hsh σ)[37]? = some (0, 8) := h.1 37 _ rfl
theorem oS38 {σ : jH} (h : Ok σ) : (hsh σ)[38]? = some (0, 8) := h.1 38 _ rfl
theorem oS39 {σ : jH} (h : Ok σ) : (hsh σ)[39]? = some (0, 64) := h.1 39 _ rfl
theorem oS40 {σ : jH} (h : Ok σ) : (hsh σ)[40]? = some (0, 12) := h.1 40 _ rfl
theorem oS41 {σ : jH} (h : Ok σ) : (hsh σ)[41]? = some (0, 4) := h.1 41 _ rfl
theorem oS42 {σ : jH} (h : Ok σ) : (hsh σ)[42]? = some (0, 27) := h.1 42 _ rfl
theorem oS43 {σ : jH} (h : Ok σ) : (hsh σ)[43]? = some (7, 0) := h.1 43 _ rfl
theorem oS44 {σ : jH} (h : Ok σ) : (hsh σ)[44]? = some (0, 8) := h.1 44 _ rfl
theorem oS45 {σ : jH} (h : Ok σ) : (hsh σ)[45]? = some (0, 8) := h.1 45 _ rfl
theorem oS46 {σ : jH} (h : Ok σ) : (hsh σ)[46]? = some (13, 0) := h.1 46 _ rfl
theorem oS47 {σ : jH} (h : Ok σ) : (hsh σ)[47]? = some (0, 8) := h.1 47 _ rfl
theorem oS48 {σ : jH} (h : Ok σ) : (hsh σ)[48]? = some (0, 8) := h.1 48 _ rfl
theorem oS49 {σ : jH} (h : Ok σ) : (hsh σ)[49]? = some (0, 8) := h.1 49 _ rfl
theorem oS50 {σ : jH} (h : Ok σ) : (hsh σ)[50]? = some (0, 8) := h.1 50 _ rfl
theorem oS51 {σ : jH} (h : Ok σ) : (hsh σ)[51]? = some (0, 64) := h.1 51 _ rfl
theorem oS52 {σ : jH} (h : Ok σ) : (hsh σ)[52]? = some (0, 12) := h.1 52 _ rfl
theorem oS53 {σ : jH} (h : Ok σ) : (hsh σ)[53]? = some (0, 4) := h.1 53 _ rfl
theorem oS54 {σ : jH} (h : Ok σ) : (hsh σ)[54]? = some (0, 27) := h.1 54 _ rfl
theorem oS55 {σ : jH} (h : Ok σ) : (hsh σ)[55]? = some (7, 0) := h.1 55 _ rfl
theorem oS56 {σ : jH} (h : Ok σ) : (hsh σ)[56]? = some (0, 8) := h.1 56 _ rfl
theorem oS57 {σ : jH} (h : Ok σ) : (hsh σ)[57]? = some (0, 8) := h.1 57 _ rfl
theorem oS58 {σ : jH} (h : Ok σ) : (hsh σ)[58]? = some (12, 0) := h.1 58 _ rfl
theorem oS59 {σ : jH} (h : Ok σ) : (hsh σ)[59]? = some (0, 8) := h.1 59 _ rfl
theorem oS60 {σ : jH} (h : Ok σ) : (hsh σ)[60]? = some (0, 8) := h.1 60 _ rfl
theorem oS61 {σ : jH} (h : Ok σ) : (hsh σ)[61]? = some (0, 12) := h.1 61 _ rfl
theorem oS62 {σ : jH} (h : Ok σ) : (hsh σ)[62]? = some (1, 12) := h.1 62 _ rfl
theorem oS63 {σ : jH} (h : Ok σ) : (hsh σ)[63]? = some (15, 0) := h.1 63 _ rfl
theorem oS64 {σ : jH} (h : Ok σ) : (hsh σ)[64]? = some (0, 2) := h.1 64 _ rfl
theorem oS65 {σ : jH} (h : Ok σ) : (hsh σ)[65]? = some (0, 600) := h.1 65 _ rfl
theorem oS66 {σ : jH} (h : Ok σ) : (hsh σ)[66]? = some (0, 32) := h.1 66 _ rfl
theorem oS67 {σ : jH} (h : Ok σ) : (hsh σ)[67]? = some (0, 64) := h.1 67 _ rfl
theorem oS68 {σ : jH} (h : Ok σ) : (hsh σ)[68]? = some (0, 12) := h.1 68 _ rfl
theorem oS69 {σ : jH} (h : Ok σ) : (hsh σ)[69]? = some (0, 4) := h.1 69 _ rfl
theorem oS70 {σ : jH} (h : Ok σ) : (hsh σ)[70]? = some (0, 27) := h.1 70 _ rfl
theorem oS71 {σ : jH} (h : Ok σ) : (hsh σ)[71]? = some (0, 8) := h.1 71 _ rfl
theorem oS72 {σ : jH} (h : Ok σ) : (hsh σ)[72]? = some (0, 32) := h.1 72 _ rfl
theorem oS73 {σ : jH} (h : Ok σ) : (hsh σ)[73]? = some (0, 64) := h.1 73 _ rfl
theorem oS74 {σ : jH} (h : Ok σ) : (hsh σ)[74]? = some (0, 12) := h.1 74 _ rfl
theorem oS75 {σ : jH} (h : Ok σ) : (hsh σ)[75]? = some (0, 4) := h.1 75 _ rfl
theorem oS76 {σ : jH} (h : Ok σ) : (hsh σ)[76]? = some (0, 27) := h.1 76 _ rfl
theorem oS77 {σ : jH} (h : Ok σ) : (hsh σ)[77]? = some (0, 8) := h.1 77 _ rfl
theorem oS78 {σ : jH} (h : Ok σ) : (hsh σ)[78]? = some (0, 150) := h.1 78 _ rfl
theorem oS79 {σ : jH} (h : Ok σ) : (hsh σ)[79]? = some (0, 150) := h.1 79 _ rfl
theorem oS80 {σ : jH} (h : Ok σ) : (hsh σ)[80]? = some (0, 150) := h.1 80 _ rfl
theorem oS81 {σ : jH} (h : Ok σ) : (hsh σ)[81]? = some (0, 150) := h.1 81 _ rfl
theorem oS82 {σ : jH} (h : Ok σ) : (hsh σ)[82]? = some (0, 150) := h.1 82 _ rfl
theorem oS83 {σ : jH} (h : Ok σ) : (hsh σ)[83]? = some (0, 8) := h.1 83 _ rfl
theorem oS84 {σ : jH} (h : Ok σ) : (hsh σ)[84]? = some (0, 150) := h.1 84 _ rfl
theorem oS85 {σ : jH} (h : Ok σ) : (hsh σ)[85]? = some (0, 150) := h.1 85 _ rfl
theorem oS86 {σ : jH} (h : Ok σ) : (hsh σ)[86]? = some (0, 171) := h.1 86 _ rfl
theorem oS87 {σ : jH} (h : Ok σ) : (hsh σ)[87]? = some (0, 171) := h.1 87 _ rfl
theorem oS88 {σ : jH} (h : Ok σ) : (hsh σ)[88]? = some (0, 2736) := h.1 88 _ rfl
theorem oS89 {σ : jH} (h : Ok σ) : (hsh σ)[89]? = some (0, 12) := h.1 89 _ rfl
theorem oS90 {σ : jH} (h : Ok σ) : (hsh σ)[90]? = some (0, 12) := h.1 90 _ rfl
theorem oS91 {σ : jH} (h : Ok σ) : (hsh σ)[91]? = some (0, 8) := h.1 91 _ rfl
theorem oS92 {σ : jH} (h : Ok σ) : (hsh σ)[92]? = some (0, 8) := h.1 92 _ rfl
theorem oS93 {σ : jH} (h : Ok σ) : (hsh σ)[93]? = some (0, 256) := h.1 93 _ rfl
theorem oS94 {σ : jH} (h : Ok σ) : (hsh σ)[94]? = some (0, 8) := h.1 94 _ rfl
theorem oS95 {σ : jH} (h : Ok σ) : (hsh σ)[95]? = some (0, 8) := h.1 95 _ rfl
theorem oS96 {σ : jH} (h : Ok σ) : (hsh σ)[96]? = some (0, 8) := h.1 96 _ rfl
theorem oS97 {σ : jH} (h : Ok σ) : (hsh σ)[97]? = some (0, 4) := h.1 97 _ rfl
theorem oS98 {σ : jH} (h : Ok σ) : (hsh σ)[98]? = some (0, 251) := h.1 98 _ rfl
theorem oS99 {σ : jH} (h : Ok σ) : (hsh σ)[99]? = some (0, 251) := h.1 99 _ rfl
theorem oS100 {σ : jH} (h : Ok σ) : (hsh σ)[100]? = some (0, 7) := h.1 100 _ rfl
theorem oS101 {σ : jH} (h : Ok σ) : (hsh σ)[101]? = some (0, 8724) := h.1 101 _ rfl
theorem oS102 {σ : jH} (h : Ok σ) : (hsh σ)[102]? = some (1, 1) := h.1 102 _ rfl
theorem oP0_0 {σ : jH} (h : Ok σ) : hp σ 0 0 = some 1 := h.2 (0, 0, 1) (by decide)
theorem oP1_0 {σ : jH} (h : Ok σ) : hp σ 1 0 = some 2 := h.2 (1, 0, 2) (by decide)
theorem oP0_1 {σ : jH} (h : Ok σ) : hp σ 0 1 = some 3 := h.2 (0, 1, 3) (by decide)
theorem oP3_0 {σ : jH} (h : Ok σ) : hp σ 3 0 = some 4 := h.2 (3, 0, 4) (by decide)
theorem oP3_1 {σ : jH} (h : Ok σ) : hp σ 3 1 = some 5 := h.2 (3, 1, 5) (by decide)
theorem oP3_2 {σ : jH} (h : Ok σ) : hp σ 3 2 = some 6 := h.2 (3, 2, 6) (by decide)
theorem oP3_3 {σ : jH} (h : Ok σ) : hp σ 3 3 = some 7 := h.2 (3, 3, 7) (by decide)
theorem oP3_4 {σ : jH} (h : Ok σ) : hp σ 3 4 = some 8 := h.2 (3, 4, 8) (by decide)
theorem oP0_2 {σ : jH} (h : Ok σ) : hp σ 0 2 = some 9 := h.2 (0, 2, 9) (by decide)
theorem oP9_0 {σ : jH} (h : Ok σ) : hp σ 9 0 = some 10 := h.2 (9, 0, 10) (by decide)
theorem oP9_1 {σ : jH} (h : Ok σ) : hp σ 9 1 = some 11 := h.2 (9, 1, 11) (by decide)
theorem oP0_3 {σ : jH} (h : Ok σ) : hp σ 0 3 = some 12 := h.2 (0, 3, 12) (by decide)
theorem oP12_0 {σ : jH} (h : Ok σ) : hp σ 12 0 = some 13 := h.2 (12, 0, 13) (by decide)
theorem oP12_1 {σ : jH} (h : Ok σ) : hp σ 12 1 = some 14 := h.2 (12, 1, 14) (by decide)
theorem oP12_2 {σ : jH} (h : Ok σ) : hp σ 12 2 = some 15 := h.2 (12, 2, 15) (by decide)
theorem oP12_3 {σ : jH} (h : Ok σ) : hp σ 12 3 = some 16 := h.2 (12, 3, 16) (by decide)
theorem oP12_4 {σ : jH} (h : Ok σ) : hp σ 12 4 = some 17 := h.2 (12, 4, 17) (by decide)
theorem oP0_4 {σ : jH} (h : Ok σ) : hp σ 0 4 = some 18 := h.2 (0, 4, 18) (by decide)
theorem oP18_0 {σ : jH} (h : Ok σ) : hp σ 18 0 = some 19 := h.2 (18, 0, 19) (by decide)
theorem oP18_1 {σ : jH} (h : Ok σ) : hp σ 18 1 = some 20 := h.2 (18, 1, 20) (by decide)
theorem oP18_2 {σ : jH} (h : Ok σ) : hp σ 18 2 = some 21 := h.2 (18, 2, 21) (by decide)
theorem oP0_5 {σ : jH} (h : Ok σ) : hp σ 0 5 = some 22 := h.2 (0, 5, 22) (by decide)
theorem oP22_0 {σ : jH} (h : Ok σ) : hp σ 22 0 = some 23 := h.2 (22, 0, 23) (by decide)
theorem oP0_6 {σ : jH} (h : Ok σ) : hp σ 0 6 = some 24 := h.2 (0, 6, 24) (by decide)
theorem oP24_0 {σ : jH} (h : Ok σ) : hp σ 24 0 = some 25 := h.2 (24, 0, 25) (by decide)
theorem oP24_1 {σ : jH} (h : Ok σ) : hp σ 24 1 = some 26 := h.2 (24, 1, 26) (by decide)
theorem oP0_7 {σ : jH} (h : Ok σ) : hp σ 0 7 = some 27 := h.2 (0, 7, 27) (by decide)
theorem oP27_0 {σ : jH} (h : Ok σ) : hp σ 27 0 = some 28 := h.2 (27, 0, 28) (by decide)
theorem oP28_0 {σ : jH} (h : Ok σ) : hp σ 28 0 = some 29 := h.2 (28, 0, 29) (by decide)
theorem oP28_1 {σ : jH} (h : Ok σ) : hp σ 28 1 = some 30 := h.2 (28, 1, 30) (by decide)
theorem oP28_2 {σ : jH} (h : Ok σ) : hp σ 28 2 = some 31 := h.2 (28, 2, 31) (by decide)
theorem oP28_3 {σ : jH} (h : Ok σ) : hp σ 28 3 = some 32 := h.2 (28, 3, 32) (by decide)
theorem oP0_8 {σ : jH} (h : Ok σ) : hp σ 0 8 = some 33 := h.2 (0, 8, 33) (by decide)
theorem oP34_0 {σ : jH} (h : Ok σ) : hp σ 34 0 = some 35 := h.2 (34, 0, 35) (by decide)
theorem oP34_1 {σ : jH} (h : Ok σ) : hp σ 34 1 = some 36 := h.2 (34, 1, 36) (by decide)
theorem oP34_2 {σ : jH} (h : Ok σ) : hp σ 34 2 = some 37 := h.2 (34, 2, 37) (by decide)
theorem oP34_3 {σ : jH} (h : Ok σ) : hp σ 34 3 = some 38 := h.2 (34, 3, 38) (by decide)
theorem oP34_4 {σ : jH} (h : Ok σ) : hp σ 34 4 = some 39 := h.2 (34, 4, 39) (by decide)
theorem oP34_5 {σ : jH} (h : Ok σ) : hp σ 34 5 = some 40 := h.2 (34, 5, 40) (by decide)
theorem oP34_6 {σ : jH} (h : Ok σ) : hp σ 34 6 = some 41 := h.2 (34, 6, 41) (by decide)
theorem oP34_7 {σ : jH} (h : Ok σ) : hp σ 34 7 = some 42 := h.2 (34, 7, 42) (by decide)
theorem oP34_8 {σ : jH} (h : Ok σ) : hp σ 34 8 = some 43 := h.2 (34, 8, 43) (by decide)
theorem oP43_0 {σ : jH} (h : Ok σ) : hp σ 43 0 = some 44 := h.2 (43, 0, 44) (by decide)
theorem oP43_1 {σ : jH} (h : Ok σ) : hp σ 43 1 = some 45 := h.2 (43, 1, 45) (by decide)
theorem oP46_0 {σ : jH} (h : Ok σ) : hp σ 46 0 = some 47 := h.2 (46, 0, 47) (by decide)
theorem oP46_1 {σ : jH} (h : Ok σ) : hp σ 46 1 = some 48 := h.2 (46, 1, 48) (by decide)
theorem oP46_2 {σ : jH} (h : Ok σ) : hp σ 46 2 = some 49 := h.2 (46, 2, 49) (by decide)
theorem oP46_3 {σ : jH} (h : Ok σ) : hp σ 46 3 = some 50 := h.2 (46, 3, 50) (by decide)
theorem oP46_4 {σ : jH} (h : Ok σ) : hp σ 46 4 = some 51 := h.2 (46, 4, 51) (by decide)
theorem oP46_5 {σ : jH} (h : Ok σ) : hp σ 46 5 = some 52 := h.2 (46, 5, 52) (by decide)
theorem oP46_6 {σ : jH} (h : Ok σ) : hp σ 46 6 = some 53 := h.2 (46, 6, 53) (by decide)
theorem oP46_7 {σ : jH} (h : Ok σ) : hp σ 46 7 = some 54 := h.2 (46, 7, 54) (by decide)
theorem oP46_8 {σ : jH} (h : Ok σ) : hp σ 46 8 = some 55 := h.2 (46, 8, 55) (by decide)
theorem oP55_0 {σ : jH} (h : Ok σ) : hp σ 55 0 = some 56 := h.2 (55, 0, 56) (by decide)
theorem oP55_1 {σ : jH} (h : Ok σ) : hp σ 55 1 = some 57 := h.2 (55, 1, 57) (by decide)
theorem oP58_0 {σ : jH} (h : Ok σ) : hp σ 58 0 = some 59 := h.2 (58, 0, 59) (by decide)
theorem oP58_1 {σ : jH} (h : Ok σ) : hp σ 58 1 = some 60 := h.2 (58, 1, 60) (by decide)
theorem oP58_2 {σ : jH} (h : Ok σ) : hp σ 58 2 = some 61 := h.2 (58, 2, 61) (by decide)
theorem oP58_3 {σ : jH} (h : Ok σ) : hp σ 58 3 = some 62 := h.2 (58, 3, 62) (by decide)
theorem oP63_1 {σ : jH} (h : Ok σ) : hp σ 63 1 = some 64 := h.2 (63, 1, 64) (by decide)
theorem oP63_9 {σ : jH} (h : Ok σ) : hp σ 63 9 = some 65 := h.2 (63, 9, 65) (by decide)
theorem oP63_10 {σ : jH} (h : Ok σ) : hp σ 63 10 = some 66 := h.2 (63, 10, 66) (by decide)
theorem oP63_11 {σ : jH} (h : Ok σ) : hp σ 63 11 = some 67 := h.2 (63, 11, 67) (by decide)
theorem oP63_12 {σ : jH} (h : Ok σ) : hp σ 63 12 = some 68 := h.2 (63, 12, 68) (by decide)
theorem oP63_13 {σ : jH} (h : Ok σ) : hp σ 63 13 = some 69 := h.2 (63, 13, 69) (by decide)
theorem oP63_14 {σ : jH} (h : Ok σ) : hp σ 63 14 = some 70 := h.2 (63, 14, 70) (by decide)
theorem oP63_15 {σ : jH} (h : Ok σ) : hp σ 63 15 = some 71 := h.2 (63, 15, 71) (by decide)
theorem oP63_16 {σ : jH} (h : Ok σ) : hp σ 63 16 = some 72 := h.2 (63, 16, 72) (by decide)
theorem oP63_17 {σ : jH} (h : Ok σ) : hp σ 63 17 = some 73 := h.2 (63, 17, 73) (by decide)
theorem oP63_18 {σ : jH} (h : Ok σ) : hp σ 63 18 = some 74 := h.2 (63, 18, 74) (by decide)
theorem oP63_19 {σ : jH} (h : Ok σ) : hp σ 63 19 = some 75 := h.2 (63, 19, 75) (by decide)
theorem oP63_20 {σ : jH} (h : Ok σ) : hp σ 63 20 = some 76 := h.2 (63, 20, 76) (by decide)
theorem oP63_21 {σ : jH} (h : Ok σ) : hp σ 63 21 = some 77 := h.2 (63, 21, 77) (by decide)
theorem oP63_36 {σ : jH} (h : Ok σ) : hp σ 63 36 = some 78 := h.2 (63, 36, 78) (by decide)
theorem oP63_37 {σ : jH} (h : Ok σ) : hp σ 63 37 = some 79 := h.2 (63, 37, 79) (by decide)
theorem oP63_38 {σ : jH} (h : Ok σ) : hp σ 63 38 = some 80 := h.2 (63, 38, 80) (by decide)
theorem oP63_39 {σ : jH} (h : Ok σ) : hp σ 63 39 = some 81 := h.2 (63, 39, 81) (by decide)
theorem oP63_40 {σ : jH} (h : Ok σ) : hp σ 63 40 = some 82 := h.2 (63, 40, 82) (by decide)
theorem oP63_43 {σ : jH} (h : Ok σ) : hp σ 63 43 = some 83 := h.2 (63, 43, 83) (by decide)
theorem oP63_44 {σ : jH} (h : Ok σ) : hp σ 63 44 = some 84 := h.2 (63, 44, 84) (by decide)
theorem oP63_45 {σ : jH} (h : Ok σ) : hp σ 63 45 = some 85 := h.2 (63, 45, 85) (by decide)
theorem oP63_52 {σ : jH} (h : Ok σ) : hp σ 63 52 = some 86 := h.2 (63, 52, 86) (by decide)
theorem oP63_53 {σ : jH} (h : Ok σ) : hp σ 63 53 = some 87 := h.2 (63, 53, 87) (by decide)
theorem oP63_54 {σ : jH} (h : Ok σ) : hp σ 63 54 = some 88 := h.2 (63, 54, 88) (by decide)
theorem oP63_57 {σ : jH} (h : Ok σ) : hp σ 63 57 = some 89 := h.2 (63, 57, 89) (by decide)
theorem oP63_58 {σ : jH} (h : Ok σ) : hp σ 63 58 = some 90 := h.2 (63, 58, 90) (by decide)
theorem oP63_60 {σ : jH} (h : Ok σ) : hp σ 63 60 = some 91 := h.2 (63, 60, 91) (by decide)
theorem oP63_61 {σ : jH} (h : Ok σ) : hp σ 63 61 = some 92 := h.2 (63, 61, 92) (by decide)
theorem oP63_63 {σ : jH} (h : Ok σ) : hp σ 63 63 = some 93 := h.2 (63, 63, 93) (by decide)
theorem oP63_64 {σ : jH} (h : Ok σ) : hp σ 63 64 = some 94 := h.2 (63, 64, 94) (by decide)
theorem oP63_65 {σ : jH} (h : Ok σ) : hp σ 63 65 = some 95 := h.2 (63, 65, 95) (by decide)
theorem oP63_66 {σ : jH} (h : Ok σ) : hp σ 63 66 = some 96 := h.2 (63, 66, 96) (by decide)
theorem oP63_67 {σ : jH} (h : Ok σ) : hp σ 63 67 = some 97 := h.2 (63, 67, 97) (by decide)
theorem oP63_69 {σ : jH} (h : Ok σ) : hp σ 63 69 = some 98 := h.2 (63, 69, 98) (by decide)
theorem oP63_70 {σ : jH} (h : Ok σ) : hp σ 63 70 = some 99 := h.2 (63, 70, 99) (by decide)
theorem oP63_71 {σ : jH} (h : Ok σ) : hp σ 63 71 = some 100 := h.2 (63, 71, 100) (by decide)
theorem oP63_75 {σ : jH} (h : Ok σ) : hp σ 63 75 = some 101 := h.2 (63, 75, 101) (by decide)
theorem jf_0_3 (z : Int) : jFit 0 3 z ↔ True := iff_true_intro (fun h => by cases h)
theorem jf_0_4 (z : Int) : jFit 0 4 z ↔ True := iff_true_intro (fun h => by cases h)
theorem jf_1_2 (z : Int) : jFit 1 2 z ↔ True := iff_true_intro (fun h => by cases h)
theorem jf_2_2 (z : Int) : jFit 2 2 z ↔ True := iff_true_intro (fun h => by cases h)
theorem jf_2_3 (z : Int) : jFit 2 3 z ↔ True := iff_true_intro (fun h => by cases h)
theorem jf_3_5 (z : Int) : jFit 3 5 z ↔ True := iff_true_intro (fun h => by cases h)
theorem jf_3_6 (z : Int) : jFit 3 6 z ↔ True := iff_true_intro (fun h => by cases h)
theorem jf_3_7 (z : Int) : jFit 3 7 z ↔ True := iff_true_intro (fun h => by cases h)
theorem jf_3_8 (z : Int) : jFit 3 8 z ↔ (z = 0 ∨ z = 1) := ⟨fun h => h rfl, fun h _ => h⟩
theorem jf_3_9 (z : Int) : jFit 3 9 z ↔ (z = 0 ∨ z = 1) := ⟨fun h => h rfl, fun h _ => h⟩
theorem jf_4_2 (z : Int) : jFit 4 2 z ↔ True := iff_true_intro (fun h => by cases h)
theorem jf_5_1 (z : Int) : jFit 5 1 z ↔ (z = 0 ∨ z = 1) := ⟨fun h => h rfl, fun h _ => h⟩
theorem jf_6_1 (z : Int) : jFit 6 1 z ↔ True := iff_true_intro (fun h => by cases h)
theorem jf_6_2 (z : Int) : jFit 6 2 z ↔ True := iff_true_intro (fun h => by cases h)
theorem jf_6_3 (z : Int) : jFit 6 3 z ↔ True := iff_true_intro (fun h => by cases h)
theorem jf_7_5 (z : Int) : jFit 7 5 z ↔ True := iff_true_intro (fun h => by cases h)
theorem jf_7_6 (z : Int) : jFit 7 6 z ↔ True := iff_true_intro (fun h => by cases h)
theorem jf_7_7 (z : Int) : jFit 7 7 z ↔ True := iff_true_intro (fun h => by cases h)
theorem jf_7_8 (z : Int) : jFit 7 8 z ↔ True := iff_true_intro (fun h => by cases h)
theorem jf_8_1 (z : Int) : jFit 8 1 z ↔ True := iff_true_intro (fun h => by cases h)
theorem jf_8_2 (z : Int) : jFit 8 2 z ↔ True := iff_true_intro (fun h => by cases h)
theorem jf_8_3 (z : Int) : jFit 8 3 z ↔ True := iff_true_intro (fun h => by cases h)
theorem jf_8_4 (z : Int) : jFit 8 4 z ↔ True := iff_true_intro (fun h => by cases h)
theorem jf_8_5 (z : Int) : jFit 8 5 z ↔ True := iff_true_intro (fun h => by cases h)
theorem jf_8_6 (z : Int) : jFit 8 6 z ↔ True := iff_true_intro (fun h => by cases h)
theorem jf_8_7 (z : Int) : jFit 8 7 z ↔ True := iff_true_intro (fun h => by cases h)
theorem jf_9_4 (z : Int) : jFit 9 4 z ↔ True := iff_true_intro (fun h => by cases h)
theorem jf_9_5 (z : Int) : jFit 9 5 z ↔ True := iff_true_intro (fun h => by cases h)
theorem jf_9_6 (z : Int) : jFit 9 6 z ↔ True := iff_true_intro (fun h => by cases h)
theorem jf_9_7 (z : Int) : jFit 9 7 z ↔ True := iff_true_intro (fun h => by cases h)
theorem jf_9_8 (z : Int) : jFit 9 8 z ↔ True := iff_true_intro (fun h => by cases h)
theorem jf_9_9 (z : Int) : jFit 9 9 z ↔ True := iff_true_intro (fun h => by cases h)
theorem jf_10_9 (z : Int) : jFit 10 9 z ↔ True := iff_true_intro (fun h => by cases h)
theorem jf_10_10 (z : Int) : jFit 10 10 z ↔ True := iff_true_intro (fun h => by cases h)
theorem jf_10_11 (z : Int) : jFit 10 11 z ↔ True := iff_true_intro (fun h => by cases h)
theorem jf_10_12 (z : Int) : jFit 10 12 z ↔ True := iff_true_intro (fun h => by cases h)
theorem jf_10_13 (z : Int) : jFit 10 13 z ↔ True := iff_true_intro (fun h => by cases h)
theorem jf_10_14 (z : Int) : jFit 10 14 z ↔ True := iff_true_intro (fun h => by cases h)
theorem jf_11_12 (z : Int) : jFit 11 12 z ↔ True := iff_true_intro (fun h => by cases h)
theorem jf_11_13 (z : Int) : jFit 11 13 z ↔ True := iff_true_intro (fun h => by cases h)
theorem jf_11_14 (z : Int) : jFit 11 14 z ↔ True := iff_true_intro (fun h => by cases h)
theorem jf_11_15 (z : Int) : jFit 11 15 z ↔ True := iff_true_intro (fun h => by cases h)
theorem jf_12_0 (z : Int) : jFit 12 0 z ↔ True := iff_true_intro (fun h => by cases h)
theorem jf_12_2 (z : Int) : jFit 12 2 z ↔ True := iff_true_intro (fun h => by cases h)
theorem jf_12_3 (z : Int) : jFit 12 3 z ↔ True := iff_true_intro (fun h => by cases h)
theorem jf_12_4 (z : Int) : jFit 12 4 z ↔ True := iff_true_intro (fun h => by cases h)
theorem jf_12_5 (z : Int) : jFit 12 5 z ↔ True := iff_true_intro (fun h => by cases h)
theorem jf_12_6 (z : Int) : jFit 12 6 z ↔ True := iff_true_intro (fun h => by cases h)
theorem jf_12_7 (z : Int) : jFit 12 7 z ↔ True := iff_true_intro (fun h => by cases h)
theorem jf_12_8 (z : Int) : jFit 12 8 z ↔ True := iff_true_intro (fun h => by cases h)
theorem jf_12_22 (z : Int) : jFit 12 22 z ↔ True := iff_true_intro (fun h => by cases h)
theorem jf_12_23 (z : Int) : jFit 12 23 z ↔ True := iff_true_intro (fun h => by cases h)
theorem jf_12_24 (z : Int) : jFit 12 24 z ↔ True := iff_true_intro (fun h => by cases h)
theorem jf_12_25 (z : Int) : jFit 12 25 z ↔ True := iff_true_intro (fun h => by cases h)
theorem jf_12_26 (z : Int) : jFit 12 26 z ↔ True := iff_true_intro (fun h => by cases h)
theorem jf_12_27 (z : Int) : jFit 12 27 z ↔ True := iff_true_intro (fun h => by cases h)
theorem jf_12_28 (z : Int) : jFit 12 28 z ↔ True := iff_true_intro (fun h => by cases h)
theorem jf_12_29 (z : Int) : jFit 12 29 z ↔ True := iff_true_intro (fun h => by cases h)
theorem jf_12_30 (z : Int) : jFit 12 30 z ↔ True := iff_true_intro (fun h => by cases h)
theorem jf_12_31 (z : Int) : jFit 12 31 z ↔ True := iff_true_intro (fun h => by cases h)
theorem jf_12_32 (z : Int) : jFit 12 32 z ↔ True := iff_true_intro (fun h => by cases h)
theorem jf_12_33 (z : Int) : jFit 12 33 z ↔ True := iff_true_intro (fun h => by cases h)
theorem jf_12_34 (z : Int) : jFit 12 34 z ↔ True := iff_true_intro (fun h => by cases h)
theorem jf_12_35 (z : Int) : jFit 12 35 z ↔ True := iff_true_intro (fun h => by cases h)
theorem jf_12_41 (z : Int) : jFit 12 41 z ↔ True := iff_true_intro (fun h => by cases h)
theorem jf_12_42 (z : Int) : jFit 12 42 z ↔ True := iff_true_intro (fun h => by cases h)
theorem jf_12_46 (z : Int) : jFit 12 46 z ↔ True := iff_true_intro (fun h => by cases h)
theorem jf_12_47 (z : Int) : jFit 12 47 z ↔ True := iff_true_intro (fun h => by cases h)
theorem jf_12_48 (z : Int) : jFit 12 48 z ↔ True := iff_true_intro (fun h => by cases h)
theorem jf_12_49 (z : Int) : jFit 12 49 z ↔ True := iff_true_intro (fun h => by cases h)
theorem jf_12_50 (z : Int) : jFit 12 50 z ↔ True := iff_true_intro (fun h => by cases h)
theorem jf_12_51 (z : Int) : jFit 12 51 z ↔ True := iff_true_intro (fun h => by cases h)
theorem jf_12_55 (z : Int) : jFit 12 55 z ↔ True := iff_true_intro (fun h => by cases h)
theorem jf_12_56 (z : Int) : jFit 12 56 z ↔ True := iff_true_intro (fun h => by cases h)
theorem jf_12_59 (z : Int) : jFit 12 59 z ↔ True := iff_true_intro (fun h => by cases h)
theorem jf_12_62 (z : Int) : jFit 12 62 z ↔ True := iff_true_intro (fun h => by cases h)
theorem jf_12_68 (z : Int) : jFit 12 68 z ↔ True := iff_true_intro (fun h => by cases h)
theorem jf_12_72 (z : Int) : jFit 12 72 z ↔ True := iff_true_intro (fun h => by cases h)
theorem jf_12_73 (z : Int) : jFit 12 73 z ↔ True := iff_true_intro (fun h => by cases h)
theorem jf_12_74 (z : Int) : jFit 12 74 z ↔ True := iff_true_intro (fun h => by cases h)
theorem jf_12_76 (z : Int) : jFit 12 76 z ↔ True := iff_true_intro (fun h => by cases h)
end OK
