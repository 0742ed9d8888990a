/-! THE PURE PART: the class's function and the reference's, over one memory. -/
theorem me_n {n : Nat} (h : n < 2 ^ 31) : zz_n (nI n) = n := nI_clamp h
theorem me_in {n N : Nat} (h : n < N) (hN : N < 2 ^ 31) : zz_in (nI n) N = true := by
  simp only [zz_in, nI_toInt (Nat.lt_trans h hN), Bool.and_eq_true, decide_eq_true_eq]
  omega
theorem me_in_of {x : Int32} {N : Nat} (h : zz_in x N = true) (hN : N < 2 ^ 31) : ∃ n : Nat, n < N ∧ x = nI n := vp_in_of (zz_in_vp h) hN
theorem me_i (M : zz_M) (a k : Nat) (v : Int32) (a' k' : Nat) : zz_i (zz_si M a k v) a' k' = if a' = a ∧ k' = k then v else zz_i M a' k' := rfl
theorem me_j (M : zz_M) (a k : Nat) (v : Int64) (a' k' : Nat) : zz_j (zz_sj M a k v) a' k' = if a' = a ∧ k' = k then v else zz_j M a' k' := rfl
theorem me_is (M : zz_M) (a k : Nat) (v : Int32) : zz_i (zz_si M a k v) a k = v := by simp [me_i]
theorem me_js (M : zz_M) (a k : Nat) (v : Int64) : zz_j (zz_sj M a k v) a k = v := by simp [me_j]
theorem me_ia {M : zz_M} {a k a' k' : Nat} {v : Int32} (h : a' ≠ a) : zz_i (zz_si M a k v) a' k' = zz_i M a' k' := by simp [me_i, h]
theorem me_ik {M : zz_M} {a k a' k' : Nat} {v : Int32} (h : k' ≠ k) : zz_i (zz_si M a k v) a' k' = zz_i M a' k' := by simp [me_i, h]
theorem me_ij (M : zz_M) (a k : Nat) (v : Int64) (a' k' : Nat) : zz_i (zz_sj M a k v) a' k' = zz_i M a' k' := rfl
theorem me_ji (M : zz_M) (a k : Nat) (v : Int32) (a' k' : Nat) : zz_j (zz_si M a k v) a' k' = zz_j M a' k' := rfl
/-- places outside 'P' are as they were -/
def me_same (P : Nat → Prop) (M M' : zz_M) : Prop := (∀ a, ¬ P a → zz_i M' a = zz_i M a) ∧ zz_j M' = zz_j M
theorem me_same.rf {P : Nat → Prop} {M : zz_M} : me_same P M M := ⟨fun _ _ => rfl, rfl⟩
theorem me_same.tr {P : Nat → Prop} {M M1 M2 : zz_M} (h1 : me_same P M M1) (h2 : me_same P M1 M2) : me_same P M M2 := ⟨fun a h => (h2.1 a h).trans (h1.1 a h), h2.2.trans h1.2⟩
theorem me_same.wk {P Q : Nat → Prop} {M M1 : zz_M} (h : me_same P M M1) (hPQ : ∀ a, P a → Q a) : me_same Q M M1 := ⟨fun a q => h.1 a (fun z => q (hPQ a z)), h.2⟩
theorem me_same.si {P : Nat → Prop} {M : zz_M} {a k : Nat} {v : Int32} (h : P a) : me_same P M (zz_si M a k v) := ⟨fun b hb => zz_i_si_ne (fun e => hb (e ▸ h)), rfl⟩
/-- within -/
def ms_in (x l h : Int32) : Int32 := if x < l then 0 else if h < x then 0 else 1
theorem ms_in_bit (x l h : Int32) : zz_bit (ms_in x l h) = true := by
  unfold ms_in
  split
  · rfl
  · split <;> rfl
theorem ms_in_1 {x l h : Int32} (h1 : l ≤ x) (h2 : x ≤ h) : ms_in x l h = 1 := by
  unfold ms_in
  rw [if_neg (by rw [Int32.not_lt]; exact h1), if_neg (by rw [Int32.not_lt]; exact h2)]
theorem ms_in_cases (x l h : Int32) : (ms_in x l h = 0 ∧ ¬ (l ≤ x ∧ x ≤ h)) ∨ (ms_in x l h = 1 ∧ l ≤ x ∧ x ≤ h) := by
  unfold ms_in
  by_cases h1 : x < l
  · rw [if_pos h1]; exact Or.inl ⟨rfl, fun q => absurd q.1 (Int32.not_le.mpr h1)⟩
  · rw [if_neg h1]
    by_cases h2 : h < x
    · rw [if_pos h2]; exact Or.inl ⟨rfl, fun q => absurd q.2 (Int32.not_le.mpr h2)⟩
    · rw [if_neg h2]; exact Or.inr ⟨rfl, Int32.not_lt.mp h1, Int32.not_lt.mp h2⟩
theorem e_X8_within (x l h : Int32) (M : zz_M) : f_X8_within x l h M = some (ms_in x l h, M) := by
  unfold f_X8_within ms_in
  split
  · rfl
  · split <;> rfl
theorem e_X9_in (x l h : Int32) (M : zz_M) : f_X9_in x l h M = some (ms_in x l h, M) := by
  unfold f_X9_in ms_in
  split
  · rfl
  · split <;> rfl
theorem e_X8_isVat (x : Int32) (M : zz_M) : f_X8_isVat x M = some (ms_in x 0 3, M) := by
  rw [f_X8_isVat, e_X8_within, zz_bd_some, if_pos (ms_in_bit _ _ _)]
theorem e_X8_isKind (x : Int32) (M : zz_M) : f_X8_isKind x M = some (ms_in x 0 5, M) := by
  rw [f_X8_isKind, e_X8_within, zz_bd_some, if_pos (ms_in_bit _ _ _)]
theorem e_X8_isSheet (x : Int32) (M : zz_M) : f_X8_isSheet x M = some (ms_in x 0 3, M) := by
  rw [f_X8_isSheet, e_X8_within, zz_bd_some, if_pos (ms_in_bit _ _ _)]
theorem e_X9_isVat (x : Int32) (M : zz_M) : f_X9_isVat x M = some (ms_in x 0 3, M) := by
  rw [f_X9_isVat, e_X9_in, zz_bd_some, if_pos (ms_in_bit _ _ _)]
theorem e_X9_isKind (x : Int32) (M : zz_M) : f_X9_isKind x M = some (ms_in x 0 5, M) := by
  rw [f_X9_isKind, e_X9_in, zz_bd_some, if_pos (ms_in_bit _ _ _)]
theorem e_X9_isSheet (x : Int32) (M : zz_M) : f_X9_isSheet x M = some (ms_in x 0 3, M) := by
  rw [f_X9_isSheet, e_X9_in, zz_bd_some, if_pos (ms_in_bit _ _ _)]
theorem e_X9_isMinutes (x : Int32) (M : zz_M) : f_X9_isMinutes x M = some (ms_in x 0 9999, M) := by
  rw [f_X9_isMinutes, e_X9_in, zz_bd_some, if_pos (ms_in_bit _ _ _)]
theorem e_X1_has (a : Nat) (x : Int32) (M : zz_M) : f_X1_has a x M = some (ms_in x 0 (zz_i M a 2 - 1), M) := by
  rw [f_X1_has, e_X8_within, zz_bd_some, if_pos (ms_in_bit _ _ _)]
theorem e_X9_isCandle (a : Nat) (x : Int32) (M : zz_M) : f_X9_isCandle a x M = some (ms_in x 0 (zz_i M 130 0 - 1), M) := by
  have h : zz_in (0 : Int32) 440 = true := by decide
  rw [f_X9_isCandle, if_pos h, e_X9_in, zz_bd_some, if_pos (ms_in_bit _ _ _)]
  rfl
/-- the finding number k is told -/
def ms_fC (k : Nat) (M : zz_M) : zz_M := zz_si M 128 k (zz_i M 128 k + 1)
def ms_fM (k : Nat) (M : zz_M) : zz_M := zz_si M 131 k (zz_i M 131 k + 1)
theorem e_finding (a : Nat) (M : zz_M) : f_X8_finding a (-1000000001) M = some (-1000000001, ms_fC 0 M) ∧ f_X8_finding a (-1000000002) M = some (-1000000002, ms_fC 1 M) ∧ f_X8_finding a (-1000000003) M = some (-1000000003, ms_fC 2 M) ∧ f_X8_finding a (-1000000004) M = some (-1000000004, ms_fC 3 M) ∧ f_X8_finding a (-1000000005) M = some (-1000000005, ms_fC 4 M) ∧ f_X8_finding a (-1000000006) M = some (-1000000006, ms_fC 5 M) ∧ f_X8_finding a (-1000000007) M = some (-1000000007, ms_fC 6 M) := by
  refine ⟨rfl, rfl, rfl, rfl, rfl, rfl, rfl⟩
theorem e_finds (a : Nat) (M : zz_M) : f_X9_finds a (-1000000001) M = some (-1000000001, ms_fM 0 M) ∧ f_X9_finds a (-1000000002) M = some (-1000000002, ms_fM 1 M) ∧ f_X9_finds a (-1000000003) M = some (-1000000003, ms_fM 2 M) ∧ f_X9_finds a (-1000000004) M = some (-1000000004, ms_fM 3 M) ∧ f_X9_finds a (-1000000005) M = some (-1000000005, ms_fM 4 M) ∧ f_X9_finds a (-1000000006) M = some (-1000000006, ms_fM 5 M) ∧ f_X9_finds a (-1000000007) M = some (-1000000007, ms_fM 6 M) := by
  refine ⟨rfl, rfl, rfl, rfl, rfl, rfl, rfl⟩
/-- what a candle takes -/
def ms_plain (w : Int32) : Int32 := if w < 30 then 9 else if w < 60 then 6 else if w < 80 then 4 else -5
def ms_gain (kind size w : Int32) : Int32 :=
  let g := ms_plain w
  if kind = 1 then 3 * g else if kind = 2 then (if 1 < g then g - 1 else g) else if kind = 3 then (if size = 0 then g else g / 2) else if kind = 4 then (if 1 < g then g + 4 else g) else if kind = 5 then (if 0 < g then 3 * g + size else 3 * g) else g
theorem e_X8_plainGain (w : Int32) (M : zz_M) : f_X8_plainGain w M = some (ms_plain w, M) := by
  unfold f_X8_plainGain ms_plain
  by_cases h1 : w < 30
  · rw [if_neg (Int32.not_le.mpr h1), if_pos h1]
  · rw [if_pos (Int32.not_lt.mp h1), if_neg h1]
    by_cases h2 : w < 60
    · rw [if_neg (Int32.not_le.mpr h2), if_pos h2]
    · rw [if_pos (Int32.not_lt.mp h2), if_neg h2]
      by_cases h3 : w < 80
      · rw [if_neg (Int32.not_le.mpr h3), if_pos h3]
      · rw [if_pos (Int32.not_lt.mp h3), if_neg h3]
theorem ms_plain_cases (w : Int32) : ms_plain w = 9 ∨ ms_plain w = 6 ∨ ms_plain w = 4 ∨ ms_plain w = -5 := by
  unfold ms_plain
  split
  · exact Or.inl rfl
  · split
    · exact Or.inr (Or.inl rfl)
    · split
      · exact Or.inr (Or.inr (Or.inl rfl))
      · exact Or.inr (Or.inr (Or.inr rfl))
theorem e_X9_plain (w : Int32) (M : zz_M) : f_X9_plain w M = some (ms_plain w, M) := by
  unfold f_X9_plain ms_plain
  by_cases h1 : w < 30
  · rw [if_neg (Int32.not_le.mpr h1), if_pos h1]
  · rw [if_pos (Int32.not_lt.mp h1), if_neg h1]
    by_cases h2 : w < 60
    · rw [if_neg (Int32.not_le.mpr h2), if_pos h2]
    · rw [if_pos (Int32.not_lt.mp h2), if_neg h2]
      by_cases h3 : w < 80
      · rw [if_neg (Int32.not_le.mpr h3), if_pos h3]
      · rw [if_pos (Int32.not_lt.mp h3), if_neg h3]
theorem e_X0_gain (a : Nat) (w : Int32) (M : zz_M) : f_X0_gain a w M = some (ms_gain (zz_i M a 0) (zz_i M a 1) w, M) := by
  have hp := ms_plain_cases w
  unfold f_X0_gain ms_gain f_X8_altarGain f_X8_moreIfAny
  simp only [e_X8_plainGain, zz_bd_some]
  rcases hp with h | h | h | h <;> rw [h] <;> (repeat' split) <;> simp_all <;> rfl
theorem me_hit {M : zz_M} {a k a' k' : Nat} {v : Int32} (h : a' = a) (h2 : k' = k) : zz_i (zz_si M a k v) a' k' = v := by rw [me_i, if_pos ⟨h, h2⟩]
theorem me_ine {M : zz_M} {a k a' k' : Nat} {v : Int32} (h : ¬ (a' = a ∧ k' = k)) : zz_i (zz_si M a k v) a' k' = zz_i M a' k' := by rw [me_i, if_neg h]
theorem me_jhit {M : zz_M} {a k a' k' : Nat} {v : Int64} (h : a' = a) (h2 : k' = k) : zz_j (zz_sj M a k v) a' k' = v := by rw [me_j, if_pos ⟨h, h2⟩]
theorem me_jne {M : zz_M} {a k a' k' : Nat} {v : Int64} (h : ¬ (a' = a ∧ k' = k)) : zz_j (zz_sj M a k v) a' k' = zz_j M a' k' := by rw [me_j, if_neg h]
theorem me_chit {M : zz_M} {a1 sp a2 dp n a' k' : Nat} (h : a' = a2) (h1 : dp ≤ k') (h2 : k' < dp + n) : zz_i (zz_ci M a1 sp a2 dp n) a' k' = zz_i M a1 (sp + (k' - dp)) := by
  subst h
  simp [zz_i, zz_ci, va_cpy, h1, h2]
theorem me_cne {M : zz_M} {a1 sp a2 dp n a' k' : Nat} (h : ¬ (a' = a2 ∧ dp ≤ k' ∧ k' < dp + n)) : zz_i (zz_ci M a1 sp a2 dp n) a' k' = zz_i M a' k' := by
  simp only [zz_i, zz_ci, va_cpy]
  split
  · rename_i q
    subst q
    rw [if_neg (fun z => h ⟨rfl, z⟩)]
  · rfl
theorem me_cj (M : zz_M) (a1 sp a2 dp n a' k' : Nat) : zz_j (zz_ci M a1 sp a2 dp n) a' k' = zz_j M a' k' := rfl
theorem me_same.ci {P : Nat → Prop} {M : zz_M} {a1 sp a dp n : Nat} (h : P a) : me_same P M (zz_ci M a1 sp a dp n) := ⟨fun b hb => zz_i_ci_ne (fun e => hb (e ▸ h)), rfl⟩
theorem me_same.at {P : Nat → Prop} {M M' : zz_M} (h : me_same P M M') {q : Nat} (hq : ¬ P q) : zz_i M' q = zz_i M q := h.1 q hq
theorem me_same.at2 {P : Nat → Prop} {M M' : zz_M} (h : me_same P M M') {q : Nat} (k : Nat) (hq : ¬ P q) : zz_i M' q k = zz_i M q k := by rw [h.1 q hq]
theorem me_zin {k N : Nat} (h : k < N) (hN : N < 2 ^ 31) : zz_in (nI k) N = true := me_in h hN
theorem me_if {α : Type} {b : Bool} {x y : α} (h : b = true) : (if b = true then x else y) = x := if_pos h
theorem me_wr {α β : Type} (x : α) (f : α → β) : zz_w x f = f x := rfl
theorem nI_lt_1 {a : Nat} {x : Int32} (b : Nat) (hx : x = nI b) (ha : a < 2 ^ 31) (hb : b < 2 ^ 31) : (nI a < x) = (a < b) := by rw [hx]; exact propext (nI_ltI ha hb)
theorem nI_nle1 {a b : Nat} (h : b < a) (ha : a < 2 ^ 31) : ¬ nI a ≤ nI b := nI_ge h ha
theorem me_bit1 : zz_bit 1 = true := rfl
theorem me_bit0 : zz_bit 0 = true := rfl
theorem me_ge {y : Int32} (n b : Nat) (hy : y = nI b) (h : n < b) (hb : b < 2 ^ 31) : ¬ y ≤ nI n := by rw [hy]; exact nI_ge h hb
theorem me_lt {y : Int32} (n b : Nat) (hy : y = nI b) (h : n < b) (hb : b < 2 ^ 31) : nI n < y := by rw [hy]; exact nI_lt h hb
theorem me_nlt {y : Int32} (a b : Nat) (hy : y = nI a) (h : b ≤ a) (hb : a < 2 ^ 31) : ¬ y < nI b := by rw [hy]; exact nI_nlt h hb
theorem me_same.s1 {M : zz_M} {a k : Nat} {v : Int32} : me_same (fun q => q = a) M (zz_si M a k v) := me_same.si (P := fun q => q = a) (Eq.refl a)
