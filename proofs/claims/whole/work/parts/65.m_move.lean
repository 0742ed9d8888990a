/-! The reference's copies of its row. -/
theorem e_X9_mv1 (a a2 : Nat) (h2 : a2 ≠ 130) : ∀ (d n i : Nat) (M : zz_M), d < n → i + d = 440 →
    ∃ M' : zz_M, b_X9_moveAll_2 n a 1 a2 (nI i) M = some ((), M') ∧ (∀ j, i ≤ j → j < 440 → zz_i M' a2 j = zz_i M 130 j) ∧ (∀ j, j < i → zz_i M' a2 j = zz_i M a2 j) ∧ me_same (fun q => q = a2) M M'
  | 0, n + 1, i, M, _, hi => by
    have : i = 440 := by omega
    subst this
    unfold b_X9_moveAll_2
    rw [if_pos (by decide)]
    exact ⟨M, rfl, fun j h1 h2 => by omega, fun _ _ => rfl, me_same.rf⟩
  | d + 1, n + 1, i, M, hd, hi => by
    unfold b_X9_moveAll_2 b_X9_moveAll_34
    rw [if_neg (me_ge (y := 440) i 440 rfl (by omega) (by decide)), if_neg (by decide), if_pos (me_in (by omega) (by decide)), if_pos (me_in (by omega) (by decide)), me_n (by omega), me_wr, me_wr, nI_1]
    obtain ⟨M', hM, hA, hB, hS⟩ := e_X9_mv1 a a2 h2 d n (i + 1) (zz_si M a2 i (zz_i M 130 i)) (by omega) (by omega)
    refine ⟨M', hM, fun j h3 h4 => ?_, fun j h3 => ?_, (me_same.s1).tr hS⟩
    · by_cases e : j = i
      · subst e
        rw [hB j (by omega), me_hit rfl rfl]
      · rw [hA j (by omega) h4, me_ine (by omega)]
    · rw [hB j (by omega), me_ine (by omega)]
theorem e_X9_keep {M : zz_M} (a : Nat) {a2 : Nat} (h2 : a2 ≠ 130) :
    ∃ M' : zz_M, f_X9_moveAll a 1 a2 M = some ((), M') ∧ (∀ j, j < 440 → zz_i M' a2 j = zz_i M 130 j) ∧ me_same (fun q => q = a2) M M' := by
  obtain ⟨M', h, hA, _, hS⟩ := e_X9_mv1 a a2 h2 440 zz_fuel 0 M (by decide) (by omega)
  exact ⟨M', h, fun j hj => hA j (by omega) hj, hS⟩
theorem e_X9_mv0 (a a2 : Nat) (h2 : a2 ≠ 130) : ∀ (d n i : Nat) (M : zz_M), d < n → i + d = 440 →
    ∃ M' : zz_M, b_X9_moveAll_2 n a 0 a2 (nI i) M = some ((), M') ∧ (∀ j, i ≤ j → j < 440 → zz_i M' 130 j = zz_i M a2 j) ∧ (∀ j, j < i → zz_i M' 130 j = zz_i M 130 j) ∧ me_same (fun q => q = 130) M M'
  | 0, n + 1, i, M, _, hi => by
    have : i = 440 := by omega
    subst this
    unfold b_X9_moveAll_2
    rw [if_pos (by decide)]
    exact ⟨M, rfl, fun j h1 h2 => by omega, fun _ _ => rfl, me_same.rf⟩
  | d + 1, n + 1, i, M, hd, hi => by
    unfold b_X9_moveAll_2 b_X9_moveAll_34
    rw [if_neg (me_ge (y := 440) i 440 rfl (by omega) (by decide)), if_pos rfl, if_pos (me_in (by omega) (by decide)), if_pos (me_in (by omega) (by decide)), me_n (by omega), me_wr, me_wr, nI_1]
    obtain ⟨M', hM, hA, hB, hS⟩ := e_X9_mv0 a a2 h2 d n (i + 1) (zz_si M 130 i (zz_i M a2 i)) (by omega) (by omega)
    refine ⟨M', hM, fun j h3 h4 => ?_, fun j h3 => ?_, (me_same.s1).tr hS⟩
    · by_cases e : j = i
      · subst e
        rw [hB j (by omega), me_hit rfl rfl]
      · rw [hA j (by omega) h4, me_ine (by omega)]
    · rw [hB j (by omega), me_ine (by omega)]
theorem e_X9_back {M : zz_M} (a : Nat) {a2 : Nat} (h2 : a2 ≠ 130) :
    ∃ M' : zz_M, f_X9_moveAll a 0 a2 M = some ((), M') ∧ (∀ j, j < 440 → zz_i M' 130 j = zz_i M a2 j) ∧ me_same (fun q => q = 130) M M' := by
  obtain ⟨M', h, hA, _, hS⟩ := e_X9_mv0 a a2 h2 440 zz_fuel 0 M (by decide) (by omega)
  exact ⟨M', h, fun j hj => hA j (by omega) hj, hS⟩
/-- what 'keeps' keeps of candle c: of the row R -/
def mr_kept (c : Nat) (R : Nat → Int32) (M : zz_M) : Prop := (∀ k, k < 16 → zz_i M 133 k = R (4 + k)) ∧ ∀ k, k < 42 → zz_i M 133 (16 + k) = R (20 + 42 * c + k)
theorem e_X9_keeps30 {c : Nat} (hc : c < 10) (a : Nat) : ∀ (d n i : Nat) (M : zz_M), d < n → i + d = 42 →
    ∃ M' : zz_M, b_X9_keeps_30 n a (nI c) (nI i) M = some ((), M') ∧ (∀ j, i ≤ j → j < 42 → zz_i M' 133 (16 + j) = zz_i M 130 (20 + 42 * c + j)) ∧ (∀ j, j < 16 + i → zz_i M' 133 j = zz_i M 133 j) ∧ me_same (fun q => q = 133) M M'
  | 0, n + 1, i, M, _, hi => by
    have : i = 42 := by omega
    subst this
    unfold b_X9_keeps_30
    rw [if_pos (by decide)]
    exact ⟨M, rfl, fun j h1 h2 => by omega, fun _ _ => rfl, me_same.rf⟩
  | d + 1, n + 1, i, M, hd, hi => by
    unfold b_X9_keeps_30
    rw [if_neg (me_ge (y := 42) i 42 rfl (by omega) (by decide)), e_X9_at c i rfl, zz_bd_some, if_pos (me_in (by omega) (by decide)), show (16 : Int32) + nI i = nI (16 + i) from nI_add 16 i, if_pos (me_in (by omega) (by decide)), me_n (by omega), me_n (by omega), me_wr, me_wr, nI_1]
    obtain ⟨M', hM, hA, hB, hS⟩ := e_X9_keeps30 hc a d n (i + 1) (zz_si M 133 (16 + i) (zz_i M 130 (20 + 42 * c + i))) (by omega) (by omega)
    refine ⟨M', hM, fun j h3 h4 => ?_, fun j h3 => ?_, (me_same.s1).tr hS⟩
    · by_cases e : j = i
      · subst e
        rw [hB (16 + j) (by omega), me_hit rfl rfl]
      · rw [hA j (by omega) h4, me_ine (by omega)]
    · rw [hB j (by omega), me_ine (by omega)]
theorem e_X9_keeps2 {c : Nat} (hc : c < 10) (a : Nat) : ∀ (d n i : Nat) (M : zz_M), d < n → i + d = 16 →
    ∃ M' : zz_M, b_X9_keeps_2 n a (nI c) (nI i) M = some ((), M') ∧ (∀ j, i ≤ j → j < 16 → zz_i M' 133 j = zz_i M 130 (4 + j)) ∧ (∀ j, j < i → zz_i M' 133 j = zz_i M 133 j) ∧ (∀ j, j < 42 → zz_i M' 133 (16 + j) = zz_i M 130 (20 + 42 * c + j)) ∧ me_same (fun q => q = 133) M M'
  | 0, n + 1, i, M, _, hi => by
    have : i = 16 := by omega
    subst this
    unfold b_X9_keeps_2
    rw [if_pos (by decide)]
    obtain ⟨M', hM, hA, hB, hS⟩ := e_X9_keeps30 hc a 42 zz_fuel 0 M (by decide) (by omega)
    exact ⟨M', hM, fun j h1 h2 => by omega, fun j hj => hB j (by omega), fun j hj => hA j (by omega) hj, hS⟩
  | d + 1, n + 1, i, M, hd, hi => by
    unfold b_X9_keeps_2
    rw [if_neg (me_ge (y := 16) i 16 rfl (by omega) (by decide)), show (4 : Int32) + nI i = nI (4 + i) from nI_add 4 i, if_pos (me_in (by omega) (by decide)), if_pos (me_in (by omega) (by decide)), me_n (by omega), me_n (by omega), me_wr, me_wr, nI_1]
    obtain ⟨M', hM, hA, hB, hC, hS⟩ := e_X9_keeps2 hc a d n (i + 1) (zz_si M 133 i (zz_i M 130 (4 + i))) (by omega) (by omega)
    refine ⟨M', hM, fun j h3 h4 => ?_, fun j h3 => ?_, fun j hj => ?_, (me_same.s1).tr hS⟩
    · by_cases e : j = i
      · subst e
        rw [hB j (by omega), me_hit rfl rfl]
      · rw [hA j (by omega) h4, me_ine (by omega)]
    · rw [hB j (by omega), me_ine (by omega)]
    · rw [hC j hj, me_ine (by omega)]
theorem e_X9_keeps {M : zz_M} {c : Nat} (hc : c < 10) (a : Nat) : ∃ M' : zz_M, f_X9_keeps a (nI c) M = some ((), M') ∧ mr_kept c (zz_i M 130) M' ∧ me_same (fun q => q = 133) M M' := by
  obtain ⟨M', hM, hA, _, hC, hS⟩ := e_X9_keeps2 hc a 16 zz_fuel 0 M (by decide) (by omega)
  exact ⟨M', hM, ⟨fun k hk => hA k (by omega) hk, hC⟩, hS⟩
theorem e_X9_puts30 {c : Nat} (hc : c < 10) (a : Nat) : ∀ (d n i : Nat) (M : zz_M), d < n → i + d = 42 →
    ∃ M' : zz_M, b_X9_putsBack_30 n a (nI c) (nI i) M = some ((), M') ∧ (∀ j, i ≤ j → j < 42 → zz_i M' 130 (20 + 42 * c + j) = zz_i M 133 (16 + j)) ∧ (∀ j, j < 20 + 42 * c + i ∨ 20 + 42 * c + 42 ≤ j → zz_i M' 130 j = zz_i M 130 j) ∧ me_same (fun q => q = 130) M M'
  | 0, n + 1, i, M, _, hi => by
    have : i = 42 := by omega
    subst this
    unfold b_X9_putsBack_30
    rw [if_pos (by decide)]
    exact ⟨M, rfl, fun j h1 h2 => by omega, fun _ _ => rfl, me_same.rf⟩
  | d + 1, n + 1, i, M, hd, hi => by
    unfold b_X9_putsBack_30
    rw [if_neg (me_ge (y := 42) i 42 rfl (by omega) (by decide)), e_X9_at c i rfl, zz_bd_some, show (16 : Int32) + nI i = nI (16 + i) from nI_add 16 i, if_pos (me_in (by omega) (by decide)), if_pos (me_in (by omega) (by decide)), me_n (by omega), me_n (by omega), me_wr, me_wr, nI_1]
    obtain ⟨M', hM, hA, hB, hS⟩ := e_X9_puts30 hc a d n (i + 1) (zz_si M 130 (20 + 42 * c + i) (zz_i M 133 (16 + i))) (by omega) (by omega)
    refine ⟨M', hM, fun j h3 h4 => ?_, fun j h3 => ?_, (me_same.s1).tr hS⟩
    · by_cases e : j = i
      · subst e
        rw [hB _ (by omega), me_hit rfl rfl]
      · rw [hA j (by omega) h4, me_ine (by omega)]
    · rw [hB j (by omega), me_ine (by omega)]
theorem e_X9_puts2 {c : Nat} (hc : c < 10) (a : Nat) : ∀ (d n i : Nat) (M : zz_M), d < n → i + d = 16 →
    ∃ M' : zz_M, b_X9_putsBack_2 n a (nI c) (nI i) M = some ((), M') ∧ (∀ j, i ≤ j → j < 16 → zz_i M' 130 (4 + j) = zz_i M 133 j) ∧ (∀ j, j < 42 → zz_i M' 130 (20 + 42 * c + j) = zz_i M 133 (16 + j)) ∧ (∀ j, j < 4 + i ∨ 20 ≤ j ∧ j < 20 + 42 * c ∨ 20 + 42 * c + 42 ≤ j → zz_i M' 130 j = zz_i M 130 j) ∧ me_same (fun q => q = 130) M M'
  | 0, n + 1, i, M, _, hi => by
    have : i = 16 := by omega
    subst this
    unfold b_X9_putsBack_2
    rw [if_pos (by decide)]
    obtain ⟨M', hM, hA, hB, hS⟩ := e_X9_puts30 hc a 42 zz_fuel 0 M (by decide) (by omega)
    exact ⟨M', hM, fun j h1 h2 => by omega, fun j hj => hA j (by omega) hj, fun j hj => hB j (by omega), hS⟩
  | d + 1, n + 1, i, M, hd, hi => by
    unfold b_X9_putsBack_2
    rw [if_neg (me_ge (y := 16) i 16 rfl (by omega) (by decide)), show (4 : Int32) + nI i = nI (4 + i) from nI_add 4 i, if_pos (me_in (by omega) (by decide)), if_pos (me_in (by omega) (by decide)), me_n (by omega), me_n (by omega), me_wr, me_wr, nI_1]
    obtain ⟨M', hM, hA, hC, hB, hS⟩ := e_X9_puts2 hc a d n (i + 1) (zz_si M 130 (4 + i) (zz_i M 133 i)) (by omega) (by omega)
    refine ⟨M', hM, fun j h3 h4 => ?_, fun j hj => ?_, fun j h3 => ?_, (me_same.s1).tr hS⟩
    · by_cases e : j = i
      · subst e
        rw [hB _ (by omega), me_hit rfl rfl]
      · rw [hA j (by omega) h4, me_ine (by omega)]
    · rw [hC j hj, me_ine (by omega)]
    · rw [hB j (by omega), me_ine (by omega)]
theorem e_X9_putsBack {M : zz_M} {c : Nat} {R : Nat → Int32} (hc : c < 10) (a : Nat) (hk : mr_kept c R M) (hR : ∀ j, j < 4 ∨ 20 ≤ j ∧ j < 20 + 42 * c ∨ 20 + 42 * c + 42 ≤ j → zz_i M 130 j = R j) :
    ∃ M' : zz_M, f_X9_putsBack a (nI c) M = some ((), M') ∧ zz_i M' 130 = R ∧ me_same (fun q => q = 130) M M' := by
  obtain ⟨M', hM, hA, hC, hB, hS⟩ := e_X9_puts2 hc a 16 zz_fuel 0 M (by decide) (by omega)
  refine ⟨M', hM, ?_, hS⟩
  funext j
  by_cases h1 : j < 4 ∨ 20 ≤ j ∧ j < 20 + 42 * c ∨ 20 + 42 * c + 42 ≤ j
  · rw [hB j (by omega), hR j h1]
  · by_cases h2 : j < 20
    · have := hA (j - 4) (by omega) (by omega)
      rw [show 4 + (j - 4) = j by omega] at this
      rw [this, hk.1 _ (by omega), show 4 + (j - 4) = j by omega]
    · have := hC (j - (20 + 42 * c)) (by omega)
      rw [show 20 + 42 * c + (j - (20 + 42 * c)) = j by omega] at this
      rw [this, hk.2 _ (by omega), show 20 + 42 * c + (j - (20 + 42 * c)) = j by omega]
theorem mr_kept.fr {c : Nat} {R : Nat → Int32} {M M' : zz_M} (h : mr_kept c R M) (e : zz_i M' 133 = zz_i M 133) : mr_kept c R M' := ⟨fun k hk => by rw [e]; exact h.1 k hk, fun k hk => by rw [e]; exact h.2 k hk⟩
