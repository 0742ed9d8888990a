/-! THE MEMORY: all cells of the class and of the reference stand in one block of 141 behind the base; only numbers ever change in them. -/
abbrev zz_M : Type := (Nat → Nat → Int32) × (Nat → Nat → Int64)
def zz_i (M : zz_M) (a k : Nat) : Int32 := M.1 a k
def zz_j (M : zz_M) (a k : Nat) : Int64 := M.2 a k
def zz_si (M : zz_M) (a k : Nat) (v : Int32) : zz_M := (fun q j => if q = a ∧ j = k then v else M.1 q j, M.2)
def zz_sj (M : zz_M) (a k : Nat) (v : Int64) : zz_M := (M.1, fun q j => if q = a ∧ j = k then v else M.2 q j)
/-- n numbers of a row come to another row (as they all were) -/
def zz_ci (M : zz_M) (a1 sp a2 dp n : Nat) : zz_M := (fun q j => if q = a2 then va_cpy (M.1 a1) (M.1 a2) sp dp n j else M.1 q j, M.2)
def zz_cj (M : zz_M) (a1 sp a2 dp n : Nat) : zz_M := (M.1, fun q j => if q = a2 then va_cpy (M.2 a1) (M.2 a2) sp dp n j else M.2 q j)
/-- the base, the tables of the classes, the classes of arrays, the places of static rows, of the Strings, of their bytes -/
abbrev zz_E : Type := Nat × va_G × (Nat → ClassId) × (Nat → Nat) × (Nat → Nat) × (Nat → Nat)
/-- which kind of cell stands where: 0 to 9 the classes (vwCl), 10 int[40], 11 int[120], 12 int[7], 13 int[440], 14 int[58], 15 int[4], 16 long[40], 17 long[160], 18 Candle[10], 19 Candle[7], 20 Sheet[4], 21 Vat[4] -/
def zz_shL : List Nat := [8, 1,7,21,6,6,6,6,18,0,10,0,10,0,10,0,10,0,10,0,10,0,10,0,10,0,10,0,10, 1,7,21,6,6,6,6,18,0,10,0,10,0,10,0,10,0,10,0,10,0,10,0,10,0,10,0,10, 7,21,6,6,6,6, 0,10, 6, 2,7,21,6,6,6,6,19,0,10,0,10,0,10,0,10,0,10,0,10,0,10, 4,11, 5, 1,7,21,6,6,6,6,18,0,10,0,10,0,10,0,10,0,10,0,10,0,10,0,10,0,10,0,10, 20,3,16,3,16,3,16,3,16, 12, 9,13,12,13,14,11,15,15,17,16,13,13]
def zz_sh (a : Nat) : Nat := zz_shL.getD a 99
def zz_cell (E : zz_E) (M : zz_M) (a : Nat) : va_E := match zz_sh a with
  | 0 => .inr (0, [.int (zz_i M a 0), .int (zz_i M a 1), .int (zz_i M a 2), .int (zz_i M a 3), .ref (E.1 + (a + 1))])
  | 1 => .inr (1, [.ref (E.1 + (a + 1)), .ref (E.1 + (a + 7)), .int (zz_i M a 2)])
  | 2 => .inr (2, [.ref (E.1 + (a + 1)), .ref (E.1 + (a + 7)), .int (zz_i M a 2), .int (zz_i M a 3), .int (zz_i M a 4), .int (zz_i M a 5), .int (zz_i M a 6)])
  | 3 => .inr (3, [.int (zz_i M a 0), .int (zz_i M a 1), .ref (E.1 + (a + 1))])
  | 4 => .inr (4, [.ref (E.1 + (a + 1)), .int (zz_i M a 1)])
  | 5 => .inr (5, [.ref (E.1 + 88), .ref (E.1 + (a + 1)), .int (zz_i M a 2), .int (zz_i M a 3), .int (zz_i M a 4), .int (zz_i M a 5)])
  | 6 => .inr (6, [.int (zz_i M a 0), .int (zz_i M a 1), .int (zz_i M a 2), .int (zz_i M a 3)])
  | 7 => .inr (7, [.ref (E.1 + (a + 1)), .int (zz_i M a 1), .int (zz_i M a 2), .int (zz_i M a 3)])
  | 8 => .inr (8, [.ref (E.1 + 1), .ref (E.1 + 29), .int (zz_i M a 2), .ref (E.1 + 57), .ref (E.1 + 63), .ref (E.1 + 65), .ref (E.1 + 66), .ref (E.1 + 88), .ref (E.1 + 90), .ref (E.1 + 119), .ref (E.1 + 128)])
  | 9 => .inr (9, [.ref (E.1 + 130), .ref (E.1 + 131), .ref (E.1 + 132), .ref (E.1 + 133), .int (zz_i M a 4), .ref (E.1 + 134), .int (zz_i M a 6), .int (zz_i M a 7), .int (zz_i M a 8), .int (zz_i M a 9), .long (zz_j M a 10), .int (zz_i M a 11), .int (zz_i M a 12), .ref (E.1 + 135), .ref (E.1 + 136), .ref (E.1 + 137), .ref (E.1 + 138), .ref (E.1 + 139), .ref (E.1 + 140), .int (zz_i M a 19)])
  | 10 => .inl (E.2.2.1 0, 40, .inl (zz_i M a))
  | 11 => .inl (E.2.2.1 0, 120, .inl (zz_i M a))
  | 12 => .inl (E.2.2.1 0, 7, .inl (zz_i M a))
  | 13 => .inl (E.2.2.1 0, 440, .inl (zz_i M a))
  | 14 => .inl (E.2.2.1 0, 58, .inl (zz_i M a))
  | 15 => .inl (E.2.2.1 0, 4, .inl (zz_i M a))
  | 16 => .inl (E.2.2.1 1, 40, .inr (.inl (zz_j M a)))
  | 17 => .inl (E.2.2.1 1, 160, .inr (.inl (zz_j M a)))
  | 18 => .inl (E.2.2.1 2, 10, .inr (.inr (.inr (.inr (fun i => some (E.1 + (a + 1 + 2 * i)))))))
  | 19 => .inl (E.2.2.1 2, 7, .inr (.inr (.inr (.inr (fun i => some (E.1 + (a + 1 + 2 * i)))))))
  | 20 => .inl (E.2.2.1 3, 4, .inr (.inr (.inr (.inr (fun i => some (E.1 + (a + 1 + 2 * i)))))))
  | 21 => .inl (E.2.2.1 4, 4, .inr (.inr (.inr (.inr (fun i => some (E.1 + (a + 1 + i)))))))
  | _ => .inl (E.2.2.1 0, 0, .inl (zz_i M a))
def zz_W (E : zz_E) (M : zz_M) : va_W := (List.range 141).map (fun k => (E.1 + k, zz_cell E M k))
def zz_A (E : zz_E) : Nat → Prop := fun q => E.1 ≤ q
def zz_tys (E : zz_E) : List (ClassId × FieldType) := [(E.2.2.1 0, .int), (E.2.2.1 1, .long), (E.2.2.1 2, .object "FortyDips$Candle"), (E.2.2.1 3, .object "FortyDips$Sheet"), (E.2.2.1 4, .object "FortyDips$Vat")]
theorem zz_W_at {E : zz_E} {M : zz_M} {a : Nat} (h : a < 141) : (zz_W E M)[a]? = some (E.1 + a, zz_cell E M a) := by simp [zz_W, h]
theorem zz_W_of {E : zz_E} {M : zz_M} {a : Nat} {q : Nat × va_E} (h : (zz_W E M)[a]? = some q) : a < 141 ∧ q = (E.1 + a, zz_cell E M a) := by
  have hl : a < 141 := by
    have := (List.getElem?_eq_some_iff.mp h).1
    simpa [zz_W] using this
  rw [zz_W_at hl] at h
  exact ⟨hl, (Option.some.inj h).symm⟩
theorem zz_D (E : zz_E) (M : zz_M) : va_D (zz_A E) (zz_W E M) := by
  refine ⟨fun i j p q hi hj hpq => ?_, fun k q hk => ?_⟩
  · obtain ⟨-, rfl⟩ := zz_W_of hi
    obtain ⟨-, rfl⟩ := zz_W_of hj
    exact Nat.add_left_cancel hpq
  · obtain ⟨-, rfl⟩ := zz_W_of hk
    exact Nat.le_add_right _ _
theorem zz_W_set {E : zz_E} {M M' : zz_M} {a : Nat} {e : va_E} (ha : zz_cell E M' a = e) (hs : ∀ j, j ≠ a → zz_cell E M' j = zz_cell E M j) : (zz_W E M).set a (E.1 + a, e) = zz_W E M' := by
  apply List.ext_getElem?
  intro i
  by_cases hl : i < 141
  · rw [zz_W_at hl]
    by_cases hi : i = a
    · subst hi
      rw [List.getElem?_set_self (by simpa [zz_W] using hl), ha]
    · rw [List.getElem?_set_ne (Ne.symm hi), zz_W_at hl, hs i hi]
  · rw [List.getElem?_eq_none (by simp [zz_W]; omega), List.getElem?_eq_none (by simp [zz_W]; omega)]
theorem zz_lt {a k : Nat} (h : zz_sh a = k) (hk : k < 99) : a < 141 := by
  rcases Nat.lt_or_ge a 141 with q | q
  · exact q
  · exfalso
    have : zz_sh a = 99 := by
      unfold zz_sh
      rw [List.getD_eq_getElem?_getD, List.getElem?_eq_none (by exact q)]
      rfl
    omega
theorem zz_i_si_ne {M : zz_M} {a k j : Nat} {v : Int32} (h : j ≠ a) : zz_i (zz_si M a k v) j = zz_i M j := by
  funext q; simp [zz_i, zz_si, h]
theorem zz_j_si {M : zz_M} {a k j : Nat} {v : Int32} : zz_j (zz_si M a k v) j = zz_j M j := rfl
theorem zz_i_sj {M : zz_M} {a k j : Nat} {v : Int64} : zz_i (zz_sj M a k v) j = zz_i M j := rfl
theorem zz_j_sj_ne {M : zz_M} {a k j : Nat} {v : Int64} (h : j ≠ a) : zz_j (zz_sj M a k v) j = zz_j M j := by
  funext q; simp [zz_j, zz_sj, h]
theorem zz_i_ci_ne {M : zz_M} {a1 sp a2 dp n j : Nat} (h : j ≠ a2) : zz_i (zz_ci M a1 sp a2 dp n) j = zz_i M j := by
  funext q; simp [zz_i, zz_ci, h]
theorem zz_j_ci {M : zz_M} {a1 sp a2 dp n j : Nat} : zz_j (zz_ci M a1 sp a2 dp n) j = zz_j M j := rfl
theorem zz_i_cj {M : zz_M} {a1 sp a2 dp n j : Nat} : zz_i (zz_cj M a1 sp a2 dp n) j = zz_i M j := rfl
theorem zz_j_cj_ne {M : zz_M} {a1 sp a2 dp n j : Nat} (h : j ≠ a2) : zz_j (zz_cj M a1 sp a2 dp n) j = zz_j M j := by
  funext q; simp [zz_j, zz_cj, h]
theorem zz_cell_eq {E : zz_E} {M M' : zz_M} {j : Nat} (h1 : zz_i M' j = zz_i M j) (h2 : zz_j M' j = zz_j M j) : zz_cell E M' j = zz_cell E M j := by
  simp only [zz_cell, h1, h2]
theorem zz_cell_si {E : zz_E} {M : zz_M} {a k : Nat} {v : Int32} : ∀ j, j ≠ a → zz_cell E (zz_si M a k v) j = zz_cell E M j := fun _ h => zz_cell_eq (zz_i_si_ne h) rfl
theorem zz_cell_sj {E : zz_E} {M : zz_M} {a k : Nat} {v : Int64} : ∀ j, j ≠ a → zz_cell E (zz_sj M a k v) j = zz_cell E M j := fun _ h => zz_cell_eq rfl (zz_j_sj_ne h)
theorem zz_cell_ci {E : zz_E} {M : zz_M} {a1 sp a2 dp n : Nat} : ∀ j, j ≠ a2 → zz_cell E (zz_ci M a1 sp a2 dp n) j = zz_cell E M j := fun _ h => zz_cell_eq (zz_i_ci_ne h) rfl
theorem zz_cell_cj {E : zz_E} {M : zz_M} {a1 sp a2 dp n : Nat} : ∀ j, j ≠ a2 → zz_cell E (zz_cj M a1 sp a2 dp n) j = zz_cell E M j := fun _ h => zz_cell_eq rfl (zz_j_cj_ne h)
/-- a name for a value, and what follows -/
def zz_w {α β : Type} (x : α) (f : α → β) : β := f x
/-- behind a call -/
def zz_bd {α β : Type} (o : Option (α × zz_M)) (k : α → zz_M → Option (β × zz_M)) : Option (β × zz_M) := o.bind (fun q => k q.1 q.2)
theorem zz_bd_some {α β : Type} (r : α) (M : zz_M) (k : α → zz_M → Option (β × zz_M)) : zz_bd (some (r, M)) k = k r M := rfl
/-- a place in a row of n -/
def zz_in (i : Int32) (n : Nat) : Bool := decide (0 ≤ i.toInt) && decide (i.toInt < n)
theorem zz_in_vp {i : Int32} {n : Nat} (h : zz_in i n = true) : vp_in i n := vp_in_iff.mpr (by simpa [zz_in] using h)
def zz_bit (v : Int32) : Bool := decide (v = 0) || decide (v = 1)
theorem zz_bit_of {v : Int32} (h : zz_bit v = true) : v = 0 ∨ v = 1 := by simpa [zz_bit] using h
/-- the place that an index names -/
def zz_n (i : Int32) : Nat := i.toNatClampNeg
