theorem zz_c0 {E : zz_E} {M : zz_M} {a : Nat} (h : zz_sh a = 0) : zz_cell E M a = .inr (0, [.int (zz_i M a 0), .int (zz_i M a 1), .int (zz_i M a 2), .int (zz_i M a 3), .ref (E.1 + (a + 1))]) := by simp only [zz_cell, h]
theorem zz_c1 {E : zz_E} {M : zz_M} {a : Nat} (h : zz_sh a = 1) : zz_cell E M a = .inr (1, [.ref (E.1 + (a + 1)), .ref (E.1 + (a + 7)), .int (zz_i M a 2)]) := by simp only [zz_cell, h]
theorem zz_c2 {E : zz_E} {M : zz_M} {a : Nat} (h : zz_sh a = 2) : zz_cell E M a = .inr (2, [.ref (E.1 + (a + 1)), .ref (E.1 + (a + 7)), .int (zz_i M a 2), .int (zz_i M a 3), .int (zz_i M a 4), .int (zz_i M a 5), .int (zz_i M a 6)]) := by simp only [zz_cell, h]
theorem zz_c3 {E : zz_E} {M : zz_M} {a : Nat} (h : zz_sh a = 3) : zz_cell E M a = .inr (3, [.int (zz_i M a 0), .int (zz_i M a 1), .ref (E.1 + (a + 1))]) := by simp only [zz_cell, h]
theorem zz_c4 {E : zz_E} {M : zz_M} {a : Nat} (h : zz_sh a = 4) : zz_cell E M a = .inr (4, [.ref (E.1 + (a + 1)), .int (zz_i M a 1)]) := by simp only [zz_cell, h]
theorem zz_c5 {E : zz_E} {M : zz_M} {a : Nat} (h : zz_sh a = 5) : zz_cell E M a = .inr (5, [.ref (E.1 + 88), .ref (E.1 + (a + 1)), .int (zz_i M a 2), .int (zz_i M a 3), .int (zz_i M a 4), .int (zz_i M a 5)]) := by simp only [zz_cell, h]
theorem zz_c6 {E : zz_E} {M : zz_M} {a : Nat} (h : zz_sh a = 6) : zz_cell E M a = .inr (6, [.int (zz_i M a 0), .int (zz_i M a 1), .int (zz_i M a 2), .int (zz_i M a 3)]) := by simp only [zz_cell, h]
theorem zz_c7 {E : zz_E} {M : zz_M} {a : Nat} (h : zz_sh a = 7) : zz_cell E M a = .inr (7, [.ref (E.1 + (a + 1)), .int (zz_i M a 1), .int (zz_i M a 2), .int (zz_i M a 3)]) := by simp only [zz_cell, h]
theorem zz_c8 {E : zz_E} {M : zz_M} {a : Nat} (h : zz_sh a = 8) : zz_cell E M a = .inr (8, [.ref (E.1 + 1), .ref (E.1 + 29), .int (zz_i M a 2), .ref (E.1 + 57), .ref (E.1 + 63), .ref (E.1 + 65), .ref (E.1 + 66), .ref (E.1 + 88), .ref (E.1 + 90), .ref (E.1 + 119), .ref (E.1 + 128)]) := by simp only [zz_cell, h]
theorem zz_c9 {E : zz_E} {M : zz_M} {a : Nat} (h : zz_sh a = 9) : zz_cell E M a = .inr (9, [.ref (E.1 + 130), .ref (E.1 + 131), .ref (E.1 + 132), .ref (E.1 + 133), .int (zz_i M a 4), .ref (E.1 + 134), .int (zz_i M a 6), .int (zz_i M a 7), .int (zz_i M a 8), .int (zz_i M a 9), .long (zz_j M a 10), .int (zz_i M a 11), .int (zz_i M a 12), .ref (E.1 + 135), .ref (E.1 + 136), .ref (E.1 + 137), .ref (E.1 + 138), .ref (E.1 + 139), .ref (E.1 + 140), .int (zz_i M a 19)]) := by simp only [zz_cell, h]
theorem zz_c10 {E : zz_E} {M : zz_M} {a : Nat} (h : zz_sh a = 10) : zz_cell E M a = .inl (E.2.2.1 0, 40, .inl (zz_i M a)) := by simp only [zz_cell, h]
theorem zz_c11 {E : zz_E} {M : zz_M} {a : Nat} (h : zz_sh a = 11) : zz_cell E M a = .inl (E.2.2.1 0, 120, .inl (zz_i M a)) := by simp only [zz_cell, h]
theorem zz_c12 {E : zz_E} {M : zz_M} {a : Nat} (h : zz_sh a = 12) : zz_cell E M a = .inl (E.2.2.1 0, 7, .inl (zz_i M a)) := by simp only [zz_cell, h]
theorem zz_c13 {E : zz_E} {M : zz_M} {a : Nat} (h : zz_sh a = 13) : zz_cell E M a = .inl (E.2.2.1 0, 440, .inl (zz_i M a)) := by simp only [zz_cell, h]
theorem zz_c14 {E : zz_E} {M : zz_M} {a : Nat} (h : zz_sh a = 14) : zz_cell E M a = .inl (E.2.2.1 0, 58, .inl (zz_i M a)) := by simp only [zz_cell, h]
theorem zz_c15 {E : zz_E} {M : zz_M} {a : Nat} (h : zz_sh a = 15) : zz_cell E M a = .inl (E.2.2.1 0, 4, .inl (zz_i M a)) := by simp only [zz_cell, h]
theorem zz_c16 {E : zz_E} {M : zz_M} {a : Nat} (h : zz_sh a = 16) : zz_cell E M a = .inl (E.2.2.1 1, 40, .inr (.inl (zz_j M a))) := by simp only [zz_cell, h]
theorem zz_c17 {E : zz_E} {M : zz_M} {a : Nat} (h : zz_sh a = 17) : zz_cell E M a = .inl (E.2.2.1 1, 160, .inr (.inl (zz_j M a))) := by simp only [zz_cell, h]
theorem zz_c18 {E : zz_E} {M : zz_M} {a : Nat} (h : zz_sh a = 18) : zz_cell E M a = .inl (E.2.2.1 2, 10, .inr (.inr (.inr (.inr (fun i => some (E.1 + (a + 1 + 2 * i))))))) := by simp only [zz_cell, h]
theorem zz_c19 {E : zz_E} {M : zz_M} {a : Nat} (h : zz_sh a = 19) : zz_cell E M a = .inl (E.2.2.1 2, 7, .inr (.inr (.inr (.inr (fun i => some (E.1 + (a + 1 + 2 * i))))))) := by simp only [zz_cell, h]
theorem zz_c20 {E : zz_E} {M : zz_M} {a : Nat} (h : zz_sh a = 20) : zz_cell E M a = .inl (E.2.2.1 3, 4, .inr (.inr (.inr (.inr (fun i => some (E.1 + (a + 1 + 2 * i))))))) := by simp only [zz_cell, h]
theorem zz_c21 {E : zz_E} {M : zz_M} {a : Nat} (h : zz_sh a = 21) : zz_cell E M a = .inl (E.2.2.1 4, 4, .inr (.inr (.inr (.inr (fun i => some (E.1 + (a + 1 + i))))))) := by simp only [zz_cell, h]
theorem zz_p0_0 {E : zz_E} {M : zz_M} {a : Nat} {v : Int32} (h : zz_sh a = 0) : zz_cell E (zz_si M a 0 v) a = .inr (0, [.int (zz_i M a 0), .int (zz_i M a 1), .int (zz_i M a 2), .int (zz_i M a 3), .ref (E.1 + (a + 1))].set 0 (.int v)) := by simp [zz_cell, h, zz_i, zz_si, zz_j]
theorem zz_p0_1 {E : zz_E} {M : zz_M} {a : Nat} {v : Int32} (h : zz_sh a = 0) : zz_cell E (zz_si M a 1 v) a = .inr (0, [.int (zz_i M a 0), .int (zz_i M a 1), .int (zz_i M a 2), .int (zz_i M a 3), .ref (E.1 + (a + 1))].set 1 (.int v)) := by simp [zz_cell, h, zz_i, zz_si, zz_j]
theorem zz_p0_2 {E : zz_E} {M : zz_M} {a : Nat} {v : Int32} (h : zz_sh a = 0) : zz_cell E (zz_si M a 2 v) a = .inr (0, [.int (zz_i M a 0), .int (zz_i M a 1), .int (zz_i M a 2), .int (zz_i M a 3), .ref (E.1 + (a + 1))].set 2 (.int v)) := by simp [zz_cell, h, zz_i, zz_si, zz_j]
theorem zz_p0_3 {E : zz_E} {M : zz_M} {a : Nat} {v : Int32} (h : zz_sh a = 0) : zz_cell E (zz_si M a 3 v) a = .inr (0, [.int (zz_i M a 0), .int (zz_i M a 1), .int (zz_i M a 2), .int (zz_i M a 3), .ref (E.1 + (a + 1))].set 3 (.int v)) := by simp [zz_cell, h, zz_i, zz_si, zz_j]
theorem zz_p1_2 {E : zz_E} {M : zz_M} {a : Nat} {v : Int32} (h : zz_sh a = 1) : zz_cell E (zz_si M a 2 v) a = .inr (1, [.ref (E.1 + (a + 1)), .ref (E.1 + (a + 7)), .int (zz_i M a 2)].set 2 (.int v)) := by simp [zz_cell, h, zz_i, zz_si, zz_j]
theorem zz_p2_2 {E : zz_E} {M : zz_M} {a : Nat} {v : Int32} (h : zz_sh a = 2) : zz_cell E (zz_si M a 2 v) a = .inr (2, [.ref (E.1 + (a + 1)), .ref (E.1 + (a + 7)), .int (zz_i M a 2), .int (zz_i M a 3), .int (zz_i M a 4), .int (zz_i M a 5), .int (zz_i M a 6)].set 2 (.int v)) := by simp [zz_cell, h, zz_i, zz_si, zz_j]
theorem zz_p2_3 {E : zz_E} {M : zz_M} {a : Nat} {v : Int32} (h : zz_sh a = 2) : zz_cell E (zz_si M a 3 v) a = .inr (2, [.ref (E.1 + (a + 1)), .ref (E.1 + (a + 7)), .int (zz_i M a 2), .int (zz_i M a 3), .int (zz_i M a 4), .int (zz_i M a 5), .int (zz_i M a 6)].set 3 (.int v)) := by simp [zz_cell, h, zz_i, zz_si, zz_j]
theorem zz_p2_4 {E : zz_E} {M : zz_M} {a : Nat} {v : Int32} (h : zz_sh a = 2) : zz_cell E (zz_si M a 4 v) a = .inr (2, [.ref (E.1 + (a + 1)), .ref (E.1 + (a + 7)), .int (zz_i M a 2), .int (zz_i M a 3), .int (zz_i M a 4), .int (zz_i M a 5), .int (zz_i M a 6)].set 4 (.int v)) := by simp [zz_cell, h, zz_i, zz_si, zz_j]
theorem zz_p2_5 {E : zz_E} {M : zz_M} {a : Nat} {v : Int32} (h : zz_sh a = 2) : zz_cell E (zz_si M a 5 v) a = .inr (2, [.ref (E.1 + (a + 1)), .ref (E.1 + (a + 7)), .int (zz_i M a 2), .int (zz_i M a 3), .int (zz_i M a 4), .int (zz_i M a 5), .int (zz_i M a 6)].set 5 (.int v)) := by simp [zz_cell, h, zz_i, zz_si, zz_j]
theorem zz_p2_6 {E : zz_E} {M : zz_M} {a : Nat} {v : Int32} (h : zz_sh a = 2) : zz_cell E (zz_si M a 6 v) a = .inr (2, [.ref (E.1 + (a + 1)), .ref (E.1 + (a + 7)), .int (zz_i M a 2), .int (zz_i M a 3), .int (zz_i M a 4), .int (zz_i M a 5), .int (zz_i M a 6)].set 6 (.int v)) := by simp [zz_cell, h, zz_i, zz_si, zz_j]
theorem zz_p3_0 {E : zz_E} {M : zz_M} {a : Nat} {v : Int32} (h : zz_sh a = 3) : zz_cell E (zz_si M a 0 v) a = .inr (3, [.int (zz_i M a 0), .int (zz_i M a 1), .ref (E.1 + (a + 1))].set 0 (.int v)) := by simp [zz_cell, h, zz_i, zz_si, zz_j]
theorem zz_p3_1 {E : zz_E} {M : zz_M} {a : Nat} {v : Int32} (h : zz_sh a = 3) : zz_cell E (zz_si M a 1 v) a = .inr (3, [.int (zz_i M a 0), .int (zz_i M a 1), .ref (E.1 + (a + 1))].set 1 (.int v)) := by simp [zz_cell, h, zz_i, zz_si, zz_j]
theorem zz_p4_1 {E : zz_E} {M : zz_M} {a : Nat} {v : Int32} (h : zz_sh a = 4) : zz_cell E (zz_si M a 1 v) a = .inr (4, [.ref (E.1 + (a + 1)), .int (zz_i M a 1)].set 1 (.int v)) := by simp [zz_cell, h, zz_i, zz_si, zz_j]
theorem zz_p5_2 {E : zz_E} {M : zz_M} {a : Nat} {v : Int32} (h : zz_sh a = 5) : zz_cell E (zz_si M a 2 v) a = .inr (5, [.ref (E.1 + 88), .ref (E.1 + (a + 1)), .int (zz_i M a 2), .int (zz_i M a 3), .int (zz_i M a 4), .int (zz_i M a 5)].set 2 (.int v)) := by simp [zz_cell, h, zz_i, zz_si, zz_j]
theorem zz_p5_3 {E : zz_E} {M : zz_M} {a : Nat} {v : Int32} (h : zz_sh a = 5) : zz_cell E (zz_si M a 3 v) a = .inr (5, [.ref (E.1 + 88), .ref (E.1 + (a + 1)), .int (zz_i M a 2), .int (zz_i M a 3), .int (zz_i M a 4), .int (zz_i M a 5)].set 3 (.int v)) := by simp [zz_cell, h, zz_i, zz_si, zz_j]
theorem zz_p5_4 {E : zz_E} {M : zz_M} {a : Nat} {v : Int32} (h : zz_sh a = 5) : zz_cell E (zz_si M a 4 v) a = .inr (5, [.ref (E.1 + 88), .ref (E.1 + (a + 1)), .int (zz_i M a 2), .int (zz_i M a 3), .int (zz_i M a 4), .int (zz_i M a 5)].set 4 (.int v)) := by simp [zz_cell, h, zz_i, zz_si, zz_j]
theorem zz_p5_5 {E : zz_E} {M : zz_M} {a : Nat} {v : Int32} (h : zz_sh a = 5) : zz_cell E (zz_si M a 5 v) a = .inr (5, [.ref (E.1 + 88), .ref (E.1 + (a + 1)), .int (zz_i M a 2), .int (zz_i M a 3), .int (zz_i M a 4), .int (zz_i M a 5)].set 5 (.int v)) := by simp [zz_cell, h, zz_i, zz_si, zz_j]
theorem zz_p6_0 {E : zz_E} {M : zz_M} {a : Nat} {v : Int32} (h : zz_sh a = 6) : zz_cell E (zz_si M a 0 v) a = .inr (6, [.int (zz_i M a 0), .int (zz_i M a 1), .int (zz_i M a 2), .int (zz_i M a 3)].set 0 (.int v)) := by simp [zz_cell, h, zz_i, zz_si, zz_j]
theorem zz_p6_1 {E : zz_E} {M : zz_M} {a : Nat} {v : Int32} (h : zz_sh a = 6) : zz_cell E (zz_si M a 1 v) a = .inr (6, [.int (zz_i M a 0), .int (zz_i M a 1), .int (zz_i M a 2), .int (zz_i M a 3)].set 1 (.int v)) := by simp [zz_cell, h, zz_i, zz_si, zz_j]
theorem zz_p6_2 {E : zz_E} {M : zz_M} {a : Nat} {v : Int32} (h : zz_sh a = 6) : zz_cell E (zz_si M a 2 v) a = .inr (6, [.int (zz_i M a 0), .int (zz_i M a 1), .int (zz_i M a 2), .int (zz_i M a 3)].set 2 (.int v)) := by simp [zz_cell, h, zz_i, zz_si, zz_j]
theorem zz_p6_3 {E : zz_E} {M : zz_M} {a : Nat} {v : Int32} (h : zz_sh a = 6) : zz_cell E (zz_si M a 3 v) a = .inr (6, [.int (zz_i M a 0), .int (zz_i M a 1), .int (zz_i M a 2), .int (zz_i M a 3)].set 3 (.int v)) := by simp [zz_cell, h, zz_i, zz_si, zz_j]
theorem zz_p7_1 {E : zz_E} {M : zz_M} {a : Nat} {v : Int32} (h : zz_sh a = 7) : zz_cell E (zz_si M a 1 v) a = .inr (7, [.ref (E.1 + (a + 1)), .int (zz_i M a 1), .int (zz_i M a 2), .int (zz_i M a 3)].set 1 (.int v)) := by simp [zz_cell, h, zz_i, zz_si, zz_j]
theorem zz_p7_2 {E : zz_E} {M : zz_M} {a : Nat} {v : Int32} (h : zz_sh a = 7) : zz_cell E (zz_si M a 2 v) a = .inr (7, [.ref (E.1 + (a + 1)), .int (zz_i M a 1), .int (zz_i M a 2), .int (zz_i M a 3)].set 2 (.int v)) := by simp [zz_cell, h, zz_i, zz_si, zz_j]
theorem zz_p7_3 {E : zz_E} {M : zz_M} {a : Nat} {v : Int32} (h : zz_sh a = 7) : zz_cell E (zz_si M a 3 v) a = .inr (7, [.ref (E.1 + (a + 1)), .int (zz_i M a 1), .int (zz_i M a 2), .int (zz_i M a 3)].set 3 (.int v)) := by simp [zz_cell, h, zz_i, zz_si, zz_j]
theorem zz_p8_2 {E : zz_E} {M : zz_M} {a : Nat} {v : Int32} (h : zz_sh a = 8) : zz_cell E (zz_si M a 2 v) a = .inr (8, [.ref (E.1 + 1), .ref (E.1 + 29), .int (zz_i M a 2), .ref (E.1 + 57), .ref (E.1 + 63), .ref (E.1 + 65), .ref (E.1 + 66), .ref (E.1 + 88), .ref (E.1 + 90), .ref (E.1 + 119), .ref (E.1 + 128)].set 2 (.int v)) := by simp [zz_cell, h, zz_i, zz_si, zz_j]
theorem zz_p9_4 {E : zz_E} {M : zz_M} {a : Nat} {v : Int32} (h : zz_sh a = 9) : zz_cell E (zz_si M a 4 v) a = .inr (9, [.ref (E.1 + 130), .ref (E.1 + 131), .ref (E.1 + 132), .ref (E.1 + 133), .int (zz_i M a 4), .ref (E.1 + 134), .int (zz_i M a 6), .int (zz_i M a 7), .int (zz_i M a 8), .int (zz_i M a 9), .long (zz_j M a 10), .int (zz_i M a 11), .int (zz_i M a 12), .ref (E.1 + 135), .ref (E.1 + 136), .ref (E.1 + 137), .ref (E.1 + 138), .ref (E.1 + 139), .ref (E.1 + 140), .int (zz_i M a 19)].set 4 (.int v)) := by simp [zz_cell, h, zz_i, zz_si, zz_j]
theorem zz_p9_6 {E : zz_E} {M : zz_M} {a : Nat} {v : Int32} (h : zz_sh a = 9) : zz_cell E (zz_si M a 6 v) a = .inr (9, [.ref (E.1 + 130), .ref (E.1 + 131), .ref (E.1 + 132), .ref (E.1 + 133), .int (zz_i M a 4), .ref (E.1 + 134), .int (zz_i M a 6), .int (zz_i M a 7), .int (zz_i M a 8), .int (zz_i M a 9), .long (zz_j M a 10), .int (zz_i M a 11), .int (zz_i M a 12), .ref (E.1 + 135), .ref (E.1 + 136), .ref (E.1 + 137), .ref (E.1 + 138), .ref (E.1 + 139), .ref (E.1 + 140), .int (zz_i M a 19)].set 6 (.int v)) := by simp [zz_cell, h, zz_i, zz_si, zz_j]
theorem zz_p9_7 {E : zz_E} {M : zz_M} {a : Nat} {v : Int32} (h : zz_sh a = 9) : zz_cell E (zz_si M a 7 v) a = .inr (9, [.ref (E.1 + 130), .ref (E.1 + 131), .ref (E.1 + 132), .ref (E.1 + 133), .int (zz_i M a 4), .ref (E.1 + 134), .int (zz_i M a 6), .int (zz_i M a 7), .int (zz_i M a 8), .int (zz_i M a 9), .long (zz_j M a 10), .int (zz_i M a 11), .int (zz_i M a 12), .ref (E.1 + 135), .ref (E.1 + 136), .ref (E.1 + 137), .ref (E.1 + 138), .ref (E.1 + 139), .ref (E.1 + 140), .int (zz_i M a 19)].set 7 (.int v)) := by simp [zz_cell, h, zz_i, zz_si, zz_j]
theorem zz_p9_8 {E : zz_E} {M : zz_M} {a : Nat} {v : Int32} (h : zz_sh a = 9) : zz_cell E (zz_si M a 8 v) a = .inr (9, [.ref (E.1 + 130), .ref (E.1 + 131), .ref (E.1 + 132), .ref (E.1 + 133), .int (zz_i M a 4), .ref (E.1 + 134), .int (zz_i M a 6), .int (zz_i M a 7), .int (zz_i M a 8), .int (zz_i M a 9), .long (zz_j M a 10), .int (zz_i M a 11), .int (zz_i M a 12), .ref (E.1 + 135), .ref (E.1 + 136), .ref (E.1 + 137), .ref (E.1 + 138), .ref (E.1 + 139), .ref (E.1 + 140), .int (zz_i M a 19)].set 8 (.int v)) := by simp [zz_cell, h, zz_i, zz_si, zz_j]
theorem zz_p9_9 {E : zz_E} {M : zz_M} {a : Nat} {v : Int32} (h : zz_sh a = 9) : zz_cell E (zz_si M a 9 v) a = .inr (9, [.ref (E.1 + 130), .ref (E.1 + 131), .ref (E.1 + 132), .ref (E.1 + 133), .int (zz_i M a 4), .ref (E.1 + 134), .int (zz_i M a 6), .int (zz_i M a 7), .int (zz_i M a 8), .int (zz_i M a 9), .long (zz_j M a 10), .int (zz_i M a 11), .int (zz_i M a 12), .ref (E.1 + 135), .ref (E.1 + 136), .ref (E.1 + 137), .ref (E.1 + 138), .ref (E.1 + 139), .ref (E.1 + 140), .int (zz_i M a 19)].set 9 (.int v)) := by simp [zz_cell, h, zz_i, zz_si, zz_j]
theorem zz_p9_10 {E : zz_E} {M : zz_M} {a : Nat} {v : Int64} (h : zz_sh a = 9) : zz_cell E (zz_sj M a 10 v) a = .inr (9, [.ref (E.1 + 130), .ref (E.1 + 131), .ref (E.1 + 132), .ref (E.1 + 133), .int (zz_i M a 4), .ref (E.1 + 134), .int (zz_i M a 6), .int (zz_i M a 7), .int (zz_i M a 8), .int (zz_i M a 9), .long (zz_j M a 10), .int (zz_i M a 11), .int (zz_i M a 12), .ref (E.1 + 135), .ref (E.1 + 136), .ref (E.1 + 137), .ref (E.1 + 138), .ref (E.1 + 139), .ref (E.1 + 140), .int (zz_i M a 19)].set 10 (.long v)) := by simp [zz_cell, h, zz_i, zz_sj, zz_j]
theorem zz_p9_11 {E : zz_E} {M : zz_M} {a : Nat} {v : Int32} (h : zz_sh a = 9) : zz_cell E (zz_si M a 11 v) a = .inr (9, [.ref (E.1 + 130), .ref (E.1 + 131), .ref (E.1 + 132), .ref (E.1 + 133), .int (zz_i M a 4), .ref (E.1 + 134), .int (zz_i M a 6), .int (zz_i M a 7), .int (zz_i M a 8), .int (zz_i M a 9), .long (zz_j M a 10), .int (zz_i M a 11), .int (zz_i M a 12), .ref (E.1 + 135), .ref (E.1 + 136), .ref (E.1 + 137), .ref (E.1 + 138), .ref (E.1 + 139), .ref (E.1 + 140), .int (zz_i M a 19)].set 11 (.int v)) := by simp [zz_cell, h, zz_i, zz_si, zz_j]
theorem zz_p9_12 {E : zz_E} {M : zz_M} {a : Nat} {v : Int32} (h : zz_sh a = 9) : zz_cell E (zz_si M a 12 v) a = .inr (9, [.ref (E.1 + 130), .ref (E.1 + 131), .ref (E.1 + 132), .ref (E.1 + 133), .int (zz_i M a 4), .ref (E.1 + 134), .int (zz_i M a 6), .int (zz_i M a 7), .int (zz_i M a 8), .int (zz_i M a 9), .long (zz_j M a 10), .int (zz_i M a 11), .int (zz_i M a 12), .ref (E.1 + 135), .ref (E.1 + 136), .ref (E.1 + 137), .ref (E.1 + 138), .ref (E.1 + 139), .ref (E.1 + 140), .int (zz_i M a 19)].set 12 (.int v)) := by simp [zz_cell, h, zz_i, zz_si, zz_j]
theorem zz_p9_19 {E : zz_E} {M : zz_M} {a : Nat} {v : Int32} (h : zz_sh a = 9) : zz_cell E (zz_si M a 19 v) a = .inr (9, [.ref (E.1 + 130), .ref (E.1 + 131), .ref (E.1 + 132), .ref (E.1 + 133), .int (zz_i M a 4), .ref (E.1 + 134), .int (zz_i M a 6), .int (zz_i M a 7), .int (zz_i M a 8), .int (zz_i M a 9), .long (zz_j M a 10), .int (zz_i M a 11), .int (zz_i M a 12), .ref (E.1 + 135), .ref (E.1 + 136), .ref (E.1 + 137), .ref (E.1 + 138), .ref (E.1 + 139), .ref (E.1 + 140), .int (zz_i M a 19)].set 19 (.int v)) := by simp [zz_cell, h, zz_i, zz_si, zz_j]
theorem zz_all {P : Nat → Prop} (h : ∀ a, a < 141 → P a) {k : Nat} (hk : k < 99) {a : Nat} (ha : zz_sh a = k) : P a := h a (zz_lt ha hk)
theorem zz_s0_4 {a : Nat} (h : zz_sh a = 0) : zz_sh (a + 1) = 10 := by
  have q : ∀ a, a < 141 → zz_sh a = 0 → zz_sh (a + 1) = 10 := by decide +kernel
  exact q a (zz_lt h (by decide)) h
theorem zz_s1_0 {a : Nat} (h : zz_sh a = 1) : zz_sh (a + 1) = 7 := by
  have q : ∀ a, a < 141 → zz_sh a = 1 → zz_sh (a + 1) = 7 := by decide +kernel
  exact q a (zz_lt h (by decide)) h
theorem zz_s1_1 {a : Nat} (h : zz_sh a = 1) : zz_sh (a + 7) = 18 := by
  have q : ∀ a, a < 141 → zz_sh a = 1 → zz_sh (a + 7) = 18 := by decide +kernel
  exact q a (zz_lt h (by decide)) h
theorem zz_s2_0 {a : Nat} (h : zz_sh a = 2) : zz_sh (a + 1) = 7 := by
  have q : ∀ a, a < 141 → zz_sh a = 2 → zz_sh (a + 1) = 7 := by decide +kernel
  exact q a (zz_lt h (by decide)) h
theorem zz_s2_1 {a : Nat} (h : zz_sh a = 2) : zz_sh (a + 7) = 19 := by
  have q : ∀ a, a < 141 → zz_sh a = 2 → zz_sh (a + 7) = 19 := by decide +kernel
  exact q a (zz_lt h (by decide)) h
theorem zz_s3_2 {a : Nat} (h : zz_sh a = 3) : zz_sh (a + 1) = 16 := by
  have q : ∀ a, a < 141 → zz_sh a = 3 → zz_sh (a + 1) = 16 := by decide +kernel
  exact q a (zz_lt h (by decide)) h
theorem zz_s4_0 {a : Nat} (h : zz_sh a = 4) : zz_sh (a + 1) = 11 := by
  have q : ∀ a, a < 141 → zz_sh a = 4 → zz_sh (a + 1) = 11 := by decide +kernel
  exact q a (zz_lt h (by decide)) h
theorem zz_s5_0 {a : Nat} (_ : zz_sh a = 5) : zz_sh 88 = 4 := by decide +kernel
theorem zz_s5_1 {a : Nat} (h : zz_sh a = 5) : zz_sh (a + 1) = 1 := by
  have q : ∀ a, a < 141 → zz_sh a = 5 → zz_sh (a + 1) = 1 := by decide +kernel
  exact q a (zz_lt h (by decide)) h
theorem zz_s7_0 {a : Nat} (h : zz_sh a = 7) : zz_sh (a + 1) = 21 := by
  have q : ∀ a, a < 141 → zz_sh a = 7 → zz_sh (a + 1) = 21 := by decide +kernel
  exact q a (zz_lt h (by decide)) h
theorem zz_s8_0 {a : Nat} (_ : zz_sh a = 8) : zz_sh 1 = 1 := by decide +kernel
theorem zz_s8_1 {a : Nat} (_ : zz_sh a = 8) : zz_sh 29 = 1 := by decide +kernel
theorem zz_s8_3 {a : Nat} (_ : zz_sh a = 8) : zz_sh 57 = 7 := by decide +kernel
theorem zz_s8_4 {a : Nat} (_ : zz_sh a = 8) : zz_sh 63 = 0 := by decide +kernel
theorem zz_s8_5 {a : Nat} (_ : zz_sh a = 8) : zz_sh 65 = 6 := by decide +kernel
theorem zz_s8_6 {a : Nat} (_ : zz_sh a = 8) : zz_sh 66 = 2 := by decide +kernel
theorem zz_s8_7 {a : Nat} (_ : zz_sh a = 8) : zz_sh 88 = 4 := by decide +kernel
theorem zz_s8_8 {a : Nat} (_ : zz_sh a = 8) : zz_sh 90 = 5 := by decide +kernel
theorem zz_s8_9 {a : Nat} (_ : zz_sh a = 8) : zz_sh 119 = 20 := by decide +kernel
theorem zz_s8_10 {a : Nat} (_ : zz_sh a = 8) : zz_sh 128 = 12 := by decide +kernel
theorem zz_s9_0 {a : Nat} (_ : zz_sh a = 9) : zz_sh 130 = 13 := by decide +kernel
theorem zz_s9_1 {a : Nat} (_ : zz_sh a = 9) : zz_sh 131 = 12 := by decide +kernel
theorem zz_s9_2 {a : Nat} (_ : zz_sh a = 9) : zz_sh 132 = 13 := by decide +kernel
theorem zz_s9_3 {a : Nat} (_ : zz_sh a = 9) : zz_sh 133 = 14 := by decide +kernel
theorem zz_s9_5 {a : Nat} (_ : zz_sh a = 9) : zz_sh 134 = 11 := by decide +kernel
theorem zz_s9_13 {a : Nat} (_ : zz_sh a = 9) : zz_sh 135 = 15 := by decide +kernel
theorem zz_s9_14 {a : Nat} (_ : zz_sh a = 9) : zz_sh 136 = 15 := by decide +kernel
theorem zz_s9_15 {a : Nat} (_ : zz_sh a = 9) : zz_sh 137 = 17 := by decide +kernel
theorem zz_s9_16 {a : Nat} (_ : zz_sh a = 9) : zz_sh 138 = 16 := by decide +kernel
theorem zz_s9_17 {a : Nat} (_ : zz_sh a = 9) : zz_sh 139 = 13 := by decide +kernel
theorem zz_s9_18 {a : Nat} (_ : zz_sh a = 9) : zz_sh 140 = 13 := by decide +kernel
theorem zz_e18 {a : Nat} {i : Int32} (h : zz_sh a = 18) (hi : zz_in i 10 = true) : zz_sh (a + 1 + 2 * zz_n i) = 0 := by
  have q : ∀ a, a < 141 → zz_sh a = 18 → ∀ j, j < 10 → zz_sh (a + 1 + 2 * j) = 0 := by decide +kernel
  refine q a (zz_lt h (by decide)) h (zz_n i) ?_
  have h1 := zz_in_vp hi
  exact Nat.not_le.mp fun z => h1 (Or.inr z)
theorem zz_e19 {a : Nat} {i : Int32} (h : zz_sh a = 19) (hi : zz_in i 7 = true) : zz_sh (a + 1 + 2 * zz_n i) = 0 := by
  have q : ∀ a, a < 141 → zz_sh a = 19 → ∀ j, j < 7 → zz_sh (a + 1 + 2 * j) = 0 := by decide +kernel
  refine q a (zz_lt h (by decide)) h (zz_n i) ?_
  have h1 := zz_in_vp hi
  exact Nat.not_le.mp fun z => h1 (Or.inr z)
theorem zz_e20 {a : Nat} {i : Int32} (h : zz_sh a = 20) (hi : zz_in i 4 = true) : zz_sh (a + 1 + 2 * zz_n i) = 3 := by
  have q : ∀ a, a < 141 → zz_sh a = 20 → ∀ j, j < 4 → zz_sh (a + 1 + 2 * j) = 3 := by decide +kernel
  refine q a (zz_lt h (by decide)) h (zz_n i) ?_
  have h1 := zz_in_vp hi
  exact Nat.not_le.mp fun z => h1 (Or.inr z)
theorem zz_e21 {a : Nat} {i : Int32} (h : zz_sh a = 21) (hi : zz_in i 4 = true) : zz_sh (a + 1 + zz_n i) = 6 := by
  have q : ∀ a, a < 141 → zz_sh a = 21 → ∀ j, j < 4 → zz_sh (a + 1 + j) = 6 := by decide +kernel
  refine q a (zz_lt h (by decide)) h (zz_n i) ?_
  have h1 := zz_in_vp hi
  exact Nat.not_le.mp fun z => h1 (Or.inr z)
theorem zz_nb {v : Int32} (h : zz_bit v = true) : narrow .boolean (.int v) = .int v := by rcases zz_bit_of h with h | h <;> rw [h] <;> rfl
theorem zz_fb {v : Int32} (h : zz_bit v = true) : fits .boolean (.int v) = true := by rcases zz_bit_of h with h | h <;> rw [h] <;> rfl
theorem zz_ne {x v : Int32} (h : ¬ x = v) : x.toInt ≠ v.toInt := fun q => h (Int32.toInt_inj.mp q)
def zz_fuel : Nat := 5000
/-- a run of n from sp on in a row of n0, and from dp on in a row of n1 -/
def zz_cpok (sp dp n : Int32) (n0 n1 : Nat) : Bool := decide (0 ≤ sp.toInt) && decide (0 ≤ dp.toInt) && decide (0 ≤ n.toInt) && decide (sp.toInt + n.toInt ≤ n0) && decide (dp.toInt + n.toInt ≤ n1)
theorem zz_nn {x : Int32} (h : 0 ≤ x.toInt) : ¬ x < 0 := by rw [Int32.lt_iff_toInt_lt, Int32.toInt_zero]; omega
theorem zz_ntoInt {x : Int32} (h : 0 ≤ x.toInt) : (zz_n x : Int) = x.toInt := by
  show ((x.toInt.toNat : Nat) : Int) = x.toInt
  omega
section ZZ
variable {p : Program} {l : Launch} {e : Env} {R : Room} {s : State} {m : MethodId} {args : Array Value} {below : List Frame} {meth : Method} {c : Code}
variable {E : zz_E} {own : String} {cc : ByteArray} {nL : Nat} {Ts : List Cond} {ρ σ : Type} {Q : ρ → zz_M → State → Prop} {o o1 o2 : Option (ρ × zz_M)} {M : zz_M} {pc : Nat} {ls : Array Slot} {rest : List Value} {cl sl : Nat}
theorem zz_ite {P : Prop} {d : Decidable P} {g : JFrame} (kt : P → zl_Z E p l e R s m args below meth c cl sl Q o1 M g) (kf : ¬ P → zl_Z E p l e R s m args below meth c cl sl Q o2 M g) : zl_Z E p l e R s m args below meth c cl sl Q (@ite _ P d o1 o2) M g := fun r M' ho H locs hP hS => by
  by_cases h : P
  · rw [if_pos h] at ho; exact kt h r M' ho H locs hP hS
  · rw [if_neg h] at ho; exact kf h r M' ho H locs hP hS
theorem zz_tabIn (C : zz_C E own cc nL Ts p s m args meth c) {dflt lo hi : Int} {offs : Array Int} {len : Nat} {x : Int32} {off : Int} {tgt : Nat} (hdg : decode cc pc = .ok (.tableswitch dflt lo hi offs, len)) (h1 : ¬ x.toInt < lo) (h2 : ¬ hi < x.toInt) (ho9 : offs[(x.toInt - lo).toNat]? = some off) (ht : (pc : Int) + off = (tgt : Int)) (k : zl_Z E p l e R s m args below meth c cl sl Q o M (F0 m tgt ls rest)) : zl_Z E p l e R s m args below meth c cl sl Q o M (F0 m pc ls (.int x :: rest)) := fun r M' ho H locs hP hS => lv_tableIn C.1.1 C.1.2.1 hdg h1 h2 ho9 ht (k r M' ho H locs hP hS)
theorem zz_tabOut (C : zz_C E own cc nL Ts p s m args meth c) {dflt lo hi : Int} {offs : Array Int} {len : Nat} {x : Int32} {tgt : Nat} (hdg : decode cc pc = .ok (.tableswitch dflt lo hi offs, len)) (h : x.toInt < lo ∨ hi < x.toInt) (ht : (pc : Int) + dflt = (tgt : Int)) (k : zl_Z E p l e R s m args below meth c cl sl Q o M (F0 m tgt ls rest)) : zl_Z E p l e R s m args below meth c cl sl Q o M (F0 m pc ls (.int x :: rest)) := fun r M' ho H locs hP hS => lv_tableOut C.1.1 C.1.2.1 hdg h ht (k r M' ho H locs hP hS)
theorem zz_look (C : zz_C E own cc nL Ts p s m args meth c) {dflt : Int} {ps : Array (Int × Int)} {len : Nat} {x : Int32} {off : Int} {tgt : Nat} (hdg : decode cc pc = .ok (.lookupswitch dflt ps, len)) (hp : (ps.toList.zip (ps.toList.drop 1)).all (fun (a, next) => a.1 < next.1) = true) (ho9 : Op.lookupswitch.offset ps.toList dflt x.toInt = off) (ht : (pc : Int) + off = (tgt : Int)) (k : zl_Z E p l e R s m args below meth c cl sl Q o M (F0 m tgt ls rest)) : zl_Z E p l e R s m args below meth c cl sl Q o M (F0 m pc ls (.int x :: rest)) := fun r M' ho H locs hP hS => lv_lookup C.1.1 C.1.2.1 hdg hp ho9 ht (k r M' ho H locs hP hS)
theorem zz_zretl (C : zz_C E own cc nL Ts p s m args meth c) {v : Int32} (hv : zz_bit v = true) (hr : meth.sig.returnType = some .boolean) (hdg : decode cc pc = .ok (.ireturn, 1)) : zz_Z E p l e R s m args below meth c (zz_Q (zz_pi E) E below args s) (some (v, M)) M (F0 m pc ls [.int v]) := fun r M' ho H locs hP hS => by
  cases ho
  exact W.zret (v := v) C.1.1 C.1.2.1 hr (by rcases zz_bit_of hv with h | h <;> rw [h] <;> rfl) (fun t ht hW => ⟨⟨v, M, rfl, ⟨rfl, rfl⟩, by show va_P E.2.1 vwCl (zz_W E M) t.heap; rw [ht]; exact hP⟩, hS.F ht⟩) hS.2.2 hdg C.2.2
theorem zz_idiv (C : zz_C E own cc nL Ts p s m args meth c) {x y : Int32} (hdg : decode cc pc = .ok (.idiv, 1)) (k : zl_Z E p l e R s m args below meth c cl sl Q o M (F0 m (pc + 1) ls (.int (x / y) :: rest))) : zl_Z E p l e R s m args below meth c cl sl Q (if y = 0 then none else o) M (F0 m pc ls (.int y :: .int x :: rest)) := zz_ite (fun _ => zz_none) (fun hne => zz_idivc C hdg hne k)
theorem zz_gets0 (C : zz_C E own cc nL Ts p s m args meth c) {index : Nat} (hm : Cond.fieldLink own index "FortyDips" "MOST_OF_VAT" "[I" ∈ Ts) (hdg : decode cc pc = .ok (.getstatic index, 3)) (k : zl_Z E p l e R s m args below meth c cl sl Q o M (F0 m (pc + 3) ls (.ref (E.2.2.2.1 0) :: rest))) : zl_Z E p l e R s m args below meth c cl sl Q o M (F0 m pc ls rest) := fun r M' ho H locs hP hS => va_gets C.1.1 C.1.2.1 C.2.1.2.2.1 hS C.1.2.2.2.1 (C.1.2.2.2.2 _ hm) (fun _ h9 => h9) hdg (k r M' ho H locs hP hS)
theorem zz_tld0 (C : zz_C E own cc nL Ts p s m args meth c) {i : Int32} (hdg : decode cc pc = .ok (.iaload, 1)) (k : zl_Z E p l e R s m args below meth c cl sl Q o M (F0 m (pc + 1) ls (.int (zz_mov.getD (zz_n i) 0) :: rest))) : zl_Z E p l e R s m args below meth c cl sl Q (if zz_in i 4 = true then o else none) M (F0 m pc ls (.int i :: .ref (E.2.2.2.1 0) :: rest)) := zz_guard (fun hin r M' ho H locs hP hS => va_ti C.1.1 C.1.2.1 C.2.1.2.2.2.1 hS (zz_in_vp hin) rfl hdg (k r M' ho H locs hP hS))
theorem zz_gets1 (C : zz_C E own cc nL Ts p s m args meth c) {index : Nat} (hm : Cond.fieldLink own index "FortyDips" "KIND_ABOVE" "[I" ∈ Ts) (hdg : decode cc pc = .ok (.getstatic index, 3)) (k : zl_Z E p l e R s m args below meth c cl sl Q o M (F0 m (pc + 3) ls (.ref (E.2.2.2.1 1) :: rest))) : zl_Z E p l e R s m args below meth c cl sl Q o M (F0 m pc ls rest) := fun r M' ho H locs hP hS => va_gets C.1.1 C.1.2.1 C.2.1.2.2.2.2.1 hS C.1.2.2.2.1 (C.1.2.2.2.2 _ hm) (fun _ h9 => h9) hdg (k r M' ho H locs hP hS)
theorem zz_tld1 (C : zz_C E own cc nL Ts p s m args meth c) {i : Int32} (hdg : decode cc pc = .ok (.iaload, 1)) (k : zl_Z E p l e R s m args below meth c cl sl Q o M (F0 m (pc + 1) ls (.int (zz_kab.getD (zz_n i) 0) :: rest))) : zl_Z E p l e R s m args below meth c cl sl Q (if zz_in i 6 = true then o else none) M (F0 m pc ls (.int i :: .ref (E.2.2.2.1 1) :: rest)) := zz_guard (fun hin r M' ho H locs hP hS => va_ti C.1.1 C.1.2.1 C.2.1.2.2.2.2.2.1 hS (zz_in_vp hin) rfl hdg (k r M' ho H locs hP hS))
theorem zz_getsN (C : zz_C E RX5 cc nL Ts p s m args meth c) (hdg : decode cc pc = .ok (.getstatic 115, 3)) (k : zl_Z E p l e R s m args below meth c cl sl Q o M (F0 m (pc + 3) ls (.ref (E.2.2.2.1 0) :: rest))) : zl_Z E p l e R s m args below meth c cl sl Q o M (F0 m pc ls rest) := fun r M' ho H locs hP hS => va_getsN (C := "FortyDips") (n := "MOST_OF_VAT") (d := "[I") C.1.1 C.1.2.1 C.2.1.2.2.1 hS C.1.2.2.2.1 (va_Nw.use rfl C.2.1.2.1.2.2.2.2.2.2.2.2) (fun _ h9 => h9) hdg (k r M' ho H locs hP hS)
theorem zz_ldcs (k : Nat) (C : zz_C E RX5 cc nL Ts p s m args meth c) (hk : k < 17) (hdg : decode cc pc = .ok (.ldc (zz_str.getD k (0, "")).1, 2)) (kk : zl_Z E p l e R s m args below meth c cl sl Q o M (F0 m (pc + 2) ls (.ref (E.2.2.2.2.1 k) :: rest))) : zl_Z E p l e R s m args below meth c cl sl Q o M (F0 m pc ls rest) := fun r M' ho H locs hP hS => va_ldcS C.1.1 C.1.2.1 C.1.2.2.2.1 (C.2.1.2.2.2.2.2.2.2.1 k hk) hdg (kk r M' ho H locs hP hS)
theorem zz_callXi (C : zz_C E own cc nL Ts p s m args meth c) {y : MethodName} {ws : List Cond} {h index maxL n i : Nat} {bytes : ByteArray} {ret : Option FieldType} {st As : List Value} {q : Option (Int32 × zz_M)} {f : Int32 → zz_M → Option (ρ × zz_M)} (hM : zz_Met (zz_pi E) l y ws h E (.ref (E.2.2.2.2.1 i) :: As) M q) (cw : CallW R s args own "java/lang/String" index y bytes maxL ret ws (zz_rm h) 0 0 n) (hi : i < 17) (hn : As.length = n) (hls : ls.size = nL) (hst : st = As.reverse ++ .ref (E.2.2.2.2.1 i) :: rest) (hW : (rest.map fun v => v.category).sum ≤ 8) (hdg : decode cc pc = .ok (.invokevirtual index, 3)) (kk : ∀ (r9 : Int32) (M9 : zz_M), q = some (r9, M9) → zl_Z E p l e R s m args below meth c cl sl Q (f r9 M9) M9 (F0 m (pc + 3) ls (.int r9 :: rest))) (hcl : cl ≤ R.cells := by exact Nat.le_of_ble_eq_true rfl) (hsl : sl ≤ R.slots := by exact Nat.le_of_ble_eq_true rfl) : zl_Z E p l e R s m args below meth c cl sl Q (zz_bd q f) M (F0 m pc ls st) := fun r M' ho H locs hP hS => by
  obtain ⟨⟨r0, M0⟩, hq, ho2⟩ := Option.bind_eq_some_iff.mp ho
  refine va_calli (va_runV (As := As) (rest := rest) C.1 (hM r0 M0 hq) cw ⟨zz_blind E M _, vk_recv C.2.1.2.2.2.2.2.2.1 hi hS, fun U hU hW => ⟨rfl, by rw [hU]; exact hP, va_K.moved hW.alike C.2.1.1, C.2.1.2.1.warm hW, C.2.1.2.2.warm hW (by rw [hU]; exact hS.2.1)⟩⟩ rfl hn hls hst (by show 2 * 0 + _ ≤ 8; omega) hdg ⟨hcl, hsl⟩) hS (fun q _ h => h) (fun q h => h) (fun r9 u t H1 locs1 ht hvm hw hB hz1 hk1 hS1 => by
    obtain ⟨rfl, rfl⟩ := hw
    exact kk r9 _ hq r M' ho2 H1 locs1 (by rw [← ht]; exact hB) hS1)
theorem zz_alen (C : zz_C E own cc nL Ts p s m args meth c) {a t n : Nat} {ty : FieldType} {x : vp_A} {v : Int32} (ha : a < 141) (hcell : zz_cell E M a = .inl (E.2.2.1 t, x)) (ht : (zz_tys E)[t]? = some (E.2.2.1 t, ty)) (hv : Int32.ofNat x.1 = v) (hdg : decode cc pc = .ok (.arraylength, 1)) (k : zl_Z E p l e R s m args below meth c cl sl Q o M (F0 m (pc + 1) ls (.int v :: rest))) : zl_Z E p l e R s m args below meth c cl sl Q o M (F0 m pc ls (.ref (E.1 + a) :: rest)) := fun r M' ho H locs hP hS => va_alen C.1.1 C.1.2.1 C.2.1.1 hP a t ((zz_W_at ha).trans (by rw [hcell])) ht hv hdg (k r M' ho H locs hP hS)
theorem zz_acopyi (C : zz_C E own cc nL Ts p s m args meth c) {index a1 a2 n1 n2 : Nat} {sp dp n : Int32} {f : zz_M → Option (ρ × zz_M)} (hls : ls.size = nL) (ha1 : a1 < 141) (ha2 : a2 < 141) (hc1 : zz_cell E M a1 = .inl (E.2.2.1 0, n1, .inl (zz_i M a1))) (hc2 : ∀ M9 : zz_M, zz_cell E M9 a2 = .inl (E.2.2.1 0, n2, .inl (zz_i M9 a2))) (hlink : Cond.methodLink own index arraycopyName ∈ Ts) (hnat : Cond.native arraycopyName ∈ Ts) (hstat : Cond.static arraycopyName ∈ Ts) (hini : Cond.initialized "java/lang/System" ∈ Ts) (hframes : 1 ≤ R.frames) (hlocals : (rest.map fun v => v.category).sum + (nativeFrameWords "java/lang/System" "arraycopy" 5 + 11) ≤ R.locals) (hdg : decode cc pc = .ok (.invokestatic index, 3)) (kk : ∀ M9 : zz_M, zl_Z E p l e R s m args below meth c cl sl Q (f M9) M9 (F0 m (pc + 3) ls rest)) : zl_Z E p l e R s m args below meth c cl sl Q (if zz_cpok sp dp n n1 n2 = true then zz_w (zz_ci M a1 (zz_n sp) a2 (zz_n dp) (zz_n n)) f else none) M (F0 m pc ls (.int n :: .int dp :: .ref (E.1 + a2) :: .int sp :: .ref (E.1 + a1) :: rest)) := zz_guard (fun hok r M' ho H locs hP hS => by
  simp only [zz_cpok, Bool.and_eq_true, decide_eq_true_eq] at hok
  obtain ⟨⟨⟨⟨q1, q2⟩, q3⟩, q4⟩, q5⟩ := hok
  have e1 := zz_ntoInt q1
  have e2 := zz_ntoInt q2
  have e3 := zz_ntoInt q3
  exact va_copyi C.1.1 C.1.2.1 (C.1.2.2.1.trans hls.symm) C.1.2.2.2.1 (C.1.2.2.2.2 _ hlink) (C.1.2.2.2.2 _ hnat) (C.1.2.2.2.2 _ hstat) (C.1.2.2.2.2 _ hini) C.2.1.1 hP (zz_D E M) hS a1 a2 0 0 ((zz_W_at ha1).trans (by rw [hc1])) ((zz_W_at ha2).trans (by rw [hc2])) (ty := .int) rfl rfl rfl (zz_nn q1) (zz_nn q2) (zz_nn q3) (by show zz_n sp + zz_n n ≤ n1; omega) (by show zz_n dp + zz_n n ≤ n2; omega) (fun i _ => rfl) hframes hlocals hdg (fun H1 locs1 hP1 _ hS1 => kk (zz_ci M a1 (zz_n sp) a2 (zz_n dp) (zz_n n)) r M' ho H1 locs1 (by rw [zz_W_set (M' := zz_ci M a1 (zz_n sp) a2 (zz_n dp) (zz_n n)) ((hc2 _).trans (by rw [show zz_i (zz_ci M a1 (zz_n sp) a2 (zz_n dp) (zz_n n)) a2 = va_cpy (zz_i M a1) (zz_i M a2) sp.toNatClampNeg dp.toNatClampNeg n.toNatClampNeg from by funext q; exact if_pos rfl])) zz_cell_ci] at hP1; exact hP1) hS1))
theorem zz_acopyl (C : zz_C E own cc nL Ts p s m args meth c) {index a1 a2 n1 n2 : Nat} {sp dp n : Int32} {f : zz_M → Option (ρ × zz_M)} (hls : ls.size = nL) (ha1 : a1 < 141) (ha2 : a2 < 141) (hc1 : zz_cell E M a1 = .inl (E.2.2.1 1, n1, .inr (.inl (zz_j M a1)))) (hc2 : ∀ M9 : zz_M, zz_cell E M9 a2 = .inl (E.2.2.1 1, n2, .inr (.inl (zz_j M9 a2)))) (hlink : Cond.methodLink own index arraycopyName ∈ Ts) (hnat : Cond.native arraycopyName ∈ Ts) (hstat : Cond.static arraycopyName ∈ Ts) (hini : Cond.initialized "java/lang/System" ∈ Ts) (hframes : 1 ≤ R.frames) (hlocals : (rest.map fun v => v.category).sum + (nativeFrameWords "java/lang/System" "arraycopy" 5 + 11) ≤ R.locals) (hdg : decode cc pc = .ok (.invokestatic index, 3)) (kk : ∀ M9 : zz_M, zl_Z E p l e R s m args below meth c cl sl Q (f M9) M9 (F0 m (pc + 3) ls rest)) : zl_Z E p l e R s m args below meth c cl sl Q (if zz_cpok sp dp n n1 n2 = true then zz_w (zz_cj M a1 (zz_n sp) a2 (zz_n dp) (zz_n n)) f else none) M (F0 m pc ls (.int n :: .int dp :: .ref (E.1 + a2) :: .int sp :: .ref (E.1 + a1) :: rest)) := zz_guard (fun hok r M' ho H locs hP hS => by
  simp only [zz_cpok, Bool.and_eq_true, decide_eq_true_eq] at hok
  obtain ⟨⟨⟨⟨q1, q2⟩, q3⟩, q4⟩, q5⟩ := hok
  have e1 := zz_ntoInt q1
  have e2 := zz_ntoInt q2
  have e3 := zz_ntoInt q3
  exact va_copyl C.1.1 C.1.2.1 (C.1.2.2.1.trans hls.symm) C.1.2.2.2.1 (C.1.2.2.2.2 _ hlink) (C.1.2.2.2.2 _ hnat) (C.1.2.2.2.2 _ hstat) (C.1.2.2.2.2 _ hini) C.2.1.1 hP (zz_D E M) hS a1 a2 1 1 ((zz_W_at ha1).trans (by rw [hc1])) ((zz_W_at ha2).trans (by rw [hc2])) (ty := .long) rfl rfl rfl (zz_nn q1) (zz_nn q2) (zz_nn q3) (by show zz_n sp + zz_n n ≤ n1; omega) (by show zz_n dp + zz_n n ≤ n2; omega) (fun i _ => rfl) hframes hlocals hdg (fun H1 locs1 hP1 _ hS1 => kk (zz_cj M a1 (zz_n sp) a2 (zz_n dp) (zz_n n)) r M' ho H1 locs1 (by rw [zz_W_set (M' := zz_cj M a1 (zz_n sp) a2 (zz_n dp) (zz_n n)) ((hc2 _).trans (by rw [show zz_j (zz_cj M a1 (zz_n sp) a2 (zz_n dp) (zz_n n)) a2 = va_cpy (zz_j M a1) (zz_j M a2) sp.toNatClampNeg dp.toNatClampNeg n.toNatClampNeg from by funext q; exact if_pos rfl])) zz_cell_cj] at hP1; exact hP1) hS1))
end ZZ
