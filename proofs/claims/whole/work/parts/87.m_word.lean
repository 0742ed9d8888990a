/-! Words. -/
def t_weq (T : ms_T) (s i : Nat) : Nat → Nat → Bool
  | 0, _ => true
  | d + 1, j => decide (T.2 (s + j) = (zz_byt.getD i []).getD j 0) && t_weq T s i d (j + 1)
def t_iw (T : ms_T) (p i : Nat) : Bool := decide (t_0 T p = 1) && decide (t_2 T p - t_1 T p = zz_len.getD i 0) && t_weq T (t_1 T p) i (zz_len.getD i 0) 0
theorem t_weq_iff (T : ms_T) (s i : Nat) : ∀ (d j : Nat), t_weq T s i d j = true ↔ ∀ u, j ≤ u → u < j + d → T.2 (s + u) = (zz_byt.getD i []).getD u 0
  | 0, j => ⟨fun _ u h1 h2 => by omega, fun _ => rfl⟩
  | d + 1, j => by
    unfold t_weq
    rw [Bool.and_eq_true, decide_eq_true_eq, t_weq_iff T s i d (j + 1)]
    constructor
    · rintro ⟨h1, h2⟩ u h3 h4
      by_cases q : u = j
      · rw [q]; exact h1
      · exact h2 u (by omega) (by omega)
    · intro h
      exact ⟨h j (by omega) (by omega), fun u h1 h2 => h u (by omega) (by omega)⟩
theorem t_iw_iff (T : ms_T) (p i : Nat) : t_iw T p i = true ↔ t_0 T p = 1 ∧ t_2 T p - t_1 T p = zz_len.getD i 0 ∧ ∀ u, u < zz_len.getD i 0 → T.2 (t_1 T p + u) = (zz_byt.getD i []).getD u 0 := by
  unfold t_iw
  rw [Bool.and_eq_true, Bool.and_eq_true, decide_eq_true_eq, decide_eq_true_eq, t_weq_iff]
  constructor
  · rintro ⟨⟨h1, h2⟩, h3⟩
    exact ⟨h1, h2, fun u hu => h3 u (by omega) (by omega)⟩
  · rintro ⟨h1, h2, h3⟩
    exact ⟨⟨h1, h2⟩, fun u _ hu => h3 u (by omega)⟩
theorem t_0_lt {T : ms_T} {p : Nat} (h : t_0 T p ≠ 0) : t_1 T p < T.1 := by
  unfold t_0 at h
  by_cases q : t_1 T p < T.1
  · exact q
  · rw [if_neg q] at h; exact absurd rfl h
theorem t_0_1 {T : ms_T} {p : Nat} (h : t_0 T p = 1) : t_1 T p < T.1 ∧ ¬ ms_in (T.2 (t_1 T p)) 97 122 = 0 ∧ t_2 T p = t_le T (T.1 - t_1 T p) (t_1 T p) := by
  have q := t_0_lt (T := T) (p := p) (by rw [h]; decide)
  unfold t_0 at h
  rw [if_pos q] at h
  by_cases ql : ms_in (T.2 (t_1 T p)) 97 122 = 0
  · rw [if_pos ql] at h
    exfalso
    by_cases qd : ms_in (T.2 (t_1 T p)) 48 57 = 0
    · rw [if_pos qd] at h
      split at h <;> omega
    · rw [if_neg qd] at h; omega
  · refine ⟨q, ql, ?_⟩
    unfold t_2
    rw [if_pos q, if_neg ql]
theorem t_le_let (T : ms_T) : ∀ (d p j : Nat), p ≤ j → j < t_le T d p → ¬ ms_in (T.2 j) 97 122 = 0
  | 0, p, j, h1, h2 => by unfold t_le at h2; omega
  | d + 1, p, j, h1, h2 => by
    unfold t_le at h2
    by_cases q : ms_in (T.2 p) 97 122 = 0
    · rw [if_pos q] at h2; omega
    · rw [if_neg q] at h2
      by_cases qj : j = p
      · rw [qj]; exact q
      · exact t_le_let T d (p + 1) j (by omega) h2
theorem e_X5_isWord28 {T : ms_T} {M : zz_M} {p i : Nat} (hn : T.1 ≤ 120) (hT : ms_TC M T) (hC : t_C M T p) (hl : zz_len.getD i 0 ≤ 12) (he : t_1 T p + zz_len.getD i 0 ≤ T.1) : ∀ (d k j : Nat), d < k → j + d = zz_len.getD i 0 → b_X5_isWord_28 k 90 i (nI j) M = some (if t_weq T (t_1 T p) i d j = true then 1 else 0, M)
  | 0, k + 1, j, _, hj => by
    unfold b_X5_isWord_28 f_J0_length_8abf5 t_weq
    rw [zz_bd_some, if_pos (show Int32.ofNat (zz_len.getD i 0) ≤ nI j from nI_le (by omega) (by omega)), if_pos rfl]
  | d + 1, k + 1, j, hd, hj => by
    unfold b_X5_isWord_28 f_J0_length_8abf5 f_J0_charAt_5068e t_weq
    rw [zz_bd_some, if_neg (show ¬ Int32.ofNat (zz_len.getD i 0) ≤ nI j from nI_ge (by omega) (by omega)), hC.2.1, nI_add, e_X5_byteAt hT hn (by omega), zz_bd_some, if_pos (me_in (show j < zz_len.getD i 0 by omega) (by omega)), zz_bd_some]
    have ec : zz_ch i (nI j) = (zz_byt.getD i []).getD j 0 := by rw [zz_ch, me_n (by omega)]
    rw [ec]
    by_cases q : T.2 (t_1 T p + j) = (zz_byt.getD i []).getD j 0
    · rw [if_pos q, decide_eq_true q, Bool.true_and, me_wr, nI_1]
      exact e_X5_isWord28 hn hT hC hl he d k (j + 1) (by omega) (by omega)
    · rw [if_neg q, decide_eq_false q, Bool.false_and, if_neg (show ¬ false = true by decide)]
theorem t_0_le (T : ms_T) (p : Nat) : t_0 T p ≤ 4 := by
  unfold t_0
  repeat' split
  all_goals omega
theorem e_X5_isWord {T : ms_T} {M : zz_M} {p i : Nat} (hn : T.1 ≤ 120) (hp : p ≤ T.1) (hT : ms_TC M T) (hC : t_C M T p) (hl : zz_len.getD i 0 ≤ 12) : f_X5_isWord 90 i M = some (if t_iw T p i = true then 1 else 0, M) := by
  have h1 := t_1_b hp
  have h2 := t_2_b hp
  have h0 := t_0_le T p
  unfold f_X5_isWord f_J0_length_8abf5 t_iw
  rw [hC.1]
  by_cases q : t_0 T p = 1
  · rw [q, if_pos (show nI 1 = 1 from rfl), zz_bd_some, hC.2.2.1, hC.2.1, pk_sub h2.1, decide_eq_true (Eq.refl 1), Bool.true_and]
    by_cases q2 : t_2 T p - t_1 T p = zz_len.getD i 0
    · rw [if_pos (show nI (t_2 T p - t_1 T p) = Int32.ofNat (zz_len.getD i 0) by rw [q2]; rfl), decide_eq_true q2, Bool.true_and]
      exact e_X5_isWord28 hn hT hC hl (by omega) (zz_len.getD i 0) zz_fuel 0 (by show _ < 5000; omega) (by omega)
    · rw [if_neg (show ¬ nI (t_2 T p - t_1 T p) = Int32.ofNat (zz_len.getD i 0) from fun z => q2 ((nI_eq (by omega) (by omega)).mp z)), decide_eq_false q2, Bool.false_and, if_neg (show ¬ false = true by decide)]
  · rw [if_neg (show ¬ nI (t_0 T p) = 1 from fun z => q ((nI_eq (a := t_0 T p) (b := 1) (by omega) (by omega)).mp z)), decide_eq_false q, Bool.false_and, Bool.false_and, if_neg (show ¬ false = true by decide)]
def t_g (i j : Nat) : Nat := zz_n ((zz_byt.getD i []).getD j 0) - 96
theorem en_inj {f g : Nat → Nat} : ∀ {k m : Nat}, (∀ j, j < k → 1 ≤ f j ∧ f j ≤ 26) → (∀ j, j < m → 1 ≤ g j ∧ g j ≤ 26) → en f k = en g m → k = m ∧ ∀ j, j < k → f j = g j
  | 0, 0, _, _, _ => ⟨rfl, fun j hj => absurd hj (Nat.not_lt_zero _)⟩
  | 0, m + 1, _, hg, h => by
    have := hg m (by omega)
    simp only [en] at h
    omega
  | k + 1, 0, hf, _, h => by
    have := hf k (by omega)
    simp only [en] at h
    omega
  | k + 1, m + 1, hf, hg, h => by
    have h1 := hf k (by omega)
    have h2 := hg m (by omega)
    simp only [en] at h
    have e1 : f k = g m := by omega
    have e2 : en f k = en g m := by omega
    obtain ⟨h3, h4⟩ := en_inj (k := k) (m := m) (fun j hj => hf j (by omega)) (fun j hj => hg j (by omega)) e2
    subst h3
    refine ⟨rfl, fun j hj => ?_⟩
    by_cases q : j = k
    · rw [q]; exact e1
    · exact h4 j (by omega)
theorem en_congr {f g : Nat → Nat} : ∀ {k : Nat}, (∀ j, j < k → f j = g j) → en f k = en g k
  | 0, _ => rfl
  | k + 1, h => by rw [en, en, en_congr (fun j hj => h j (by omega)), h k (by omega)]
/-- y is the number of word i -/
def t_code (i : Nat) (y : Int64) : Prop := y = lN (en (t_g i) (zz_len.getD i 0)) ∧ zz_len.getD i 0 ≤ 12 ∧ ∀ j, j < zz_len.getD i 0 → 1 ≤ t_g i j ∧ t_g i j ≤ 26 ∧ (zz_byt.getD i []).getD j 0 = nI (t_g i j + 96)
theorem e_X9_isWord {T : ms_T} {M : zz_M} {p i : Nat} {y : Int64} (hp : p ≤ T.1) (hn : T.1 ≤ 120) (hD : t_D M T p) (hy : t_code i y) : f_X9_isWord 129 y M = some (if t_iw T p i = true then 1 else 0, M) := by
  obtain ⟨y1, y2, y3⟩ := hy
  have h1 := t_1_b hp
  have h2 := t_2_b hp
  have h0 := t_0_le T p
  have p12 : (27 : Nat) ^ 12 < 2 ^ 63 := by decide
  have hgb : en (t_g i) (zz_len.getD i 0) < 2 ^ 63 := Nat.lt_of_lt_of_le (en_b (fun j hj => (y3 j hj).2.1)) (Nat.le_trans (Nat.pow_le_pow_right (by decide) y2) (Nat.le_of_lt p12))
  unfold f_X9_isWord
  rw [hD.1]
  by_cases q : t_0 T p = 1
  · obtain ⟨c1, c2, c3⟩ := t_0_1 q
    have hlet : ∀ j, j < t_2 T p - t_1 T p → 1 ≤ t_let T (t_1 T p) j ∧ t_let T (t_1 T p) j ≤ 26 ∧ T.2 (t_1 T p + j) = nI (t_let T (t_1 T p) j + 96) := by
      intro j hj
      have hl := t_le_let T (T.1 - t_1 T p) (t_1 T p) (t_1 T p + j) (by omega) (by omega)
      obtain ⟨c, hc1, hc2, hc⟩ := t_letter hl
      unfold t_let
      rw [hc, me_n (by omega)]
      refine ⟨by omega, by omega, ?_⟩
      congr 1
      omega
    rw [q, if_neg (show ¬ (1 : Nat) = 4 by decide), if_pos (show nI 1 = 1 from rfl), hD.2.2.2.2.2.2 q]
    have key : t_wv T (t_1 T p) (t_2 T p - t_1 T p) = y ↔ t_iw T p i = true := by
      rw [t_iw_iff, y1]
      by_cases ql : t_2 T p - t_1 T p ≤ 12
      · have hfb : en (t_let T (t_1 T p)) (t_2 T p - t_1 T p) < 2 ^ 63 := Nat.lt_of_lt_of_le (en_b (fun j hj => (hlet j hj).2.1)) (Nat.le_trans (Nat.pow_le_pow_right (by decide) ql) (Nat.le_of_lt p12))
        rw [t_wv, if_pos ql, pk_lEQ hfb hgb]
        constructor
        · intro h
          obtain ⟨g1, g2⟩ := en_inj (fun j hj => ⟨(hlet j hj).1, (hlet j hj).2.1⟩) (fun j hj => ⟨(y3 j hj).1, (y3 j hj).2.1⟩) h
          refine ⟨q, g1, fun u hu => ?_⟩
          rw [(hlet u (by omega)).2.2, g2 u (by omega), (y3 u hu).2.2]
        · rintro ⟨_, g1, g2⟩
          rw [← g1]
          refine en_congr (fun j hj => ?_)
          have e1 := g2 j (by omega)
          rw [(hlet j hj).2.2, (y3 j (by omega)).2.2] at e1
          have b1 := (hlet j hj).2.1
          have b2 := (y3 j (by omega)).2.1
          have := (nI_eq (by omega) (by omega)).mp e1
          omega
      · rw [t_wv, if_neg ql]
        constructor
        · intro h
          exfalso
          have h3 := congrArg Int64.toInt h
          rw [pk_lT hgb] at h3
          have : (-1 : Int64).toInt = -1 := rfl
          omega
        · rintro ⟨_, g1, _⟩
          exfalso
          omega
    by_cases qw : t_iw T p i = true
    · rw [if_pos ((lg_cmp_eq _ _).mpr (key.mpr qw)), if_pos qw]
    · rw [if_neg (fun z => qw (key.mp ((lg_cmp_eq _ _).mp z))), if_neg qw]
  · have hf : ¬ t_iw T p i = true := fun z => q ((t_iw_iff T p i).mp z).1
    rw [if_neg hf, if_neg]
    intro z
    by_cases q4 : t_0 T p = 4
    · rw [if_pos q4] at z
      exact absurd z (by decide)
    · rw [if_neg q4] at z
      exact q ((nI_eq (a := t_0 T p) (b := 1) (by omega) (by omega)).mp z)
theorem t_w0 : t_code 0 43856969 := ⟨by decide, by decide, by decide⟩
theorem t_w1 : t_code 1 388602 := ⟨by decide, by decide, by decide⟩
theorem t_w2 : t_code 2 782262 := ⟨by decide, by decide, by decide⟩
theorem t_w3 : t_code 3 370124 := ⟨by decide, by decide, by decide⟩
theorem t_w4 : t_code 4 6223239030 := ⟨by decide, by decide, by decide⟩
theorem t_w5 : t_code 5 296733218 := ⟨by decide, by decide, by decide⟩
theorem t_w6 : t_code 6 16085 := ⟨by decide, by decide, by decide⟩
theorem t_w7 : t_code 7 3175 := ⟨by decide, by decide, by decide⟩
theorem t_w8 : t_code 8 464053 := ⟨by decide, by decide, by decide⟩
theorem t_w9 : t_code 9 1808912405 := ⟨by decide, by decide, by decide⟩
theorem t_w10 : t_code 10 287754953 := ⟨by decide, by decide, by decide⟩
theorem t_w11 : t_code 11 16818 := ⟨by decide, by decide, by decide⟩
theorem t_w12 : t_code 12 453937 := ⟨by decide, by decide, by decide⟩
theorem t_w13 : t_code 13 4555648 := ⟨by decide, by decide, by decide⟩
theorem t_w14 : t_code 14 125150 := ⟨by decide, by decide, by decide⟩
theorem t_w15 : t_code 15 70312 := ⟨by decide, by decide, by decide⟩
theorem t_w16 : t_code 16 257 := ⟨by decide, by decide, by decide⟩
