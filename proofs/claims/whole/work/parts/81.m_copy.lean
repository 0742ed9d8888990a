/-! Sheets: copies, layings, cuts. -/
def ms_run (z x y : Int32) : Int32 := if x < 0 then 0 else if y < 0 then 0 else if z < x then 0 else if z - x < y then 0 else 1
theorem e_X3_hasRun {M : zz_M} {a n : Nat} (h : zz_i M a 1 = nI n) (x y : Int32) : f_X3_hasRun a x y M = some (ms_run (nI n) x y, M) := by
  unfold f_X3_hasRun ms_run
  rw [h]
  repeat' split
  all_goals rfl
theorem e_X9_isPart {M : zz_M} {s n : Nat} (hs : s < 4) (hn : n ≤ 40) (h : zz_i M 136 s = nI n) (x y : Int32) (a : Nat) : f_X9_isPart a (nI s) x y M = some (ms_run (nI n) x y, M) := by
  have h0 : 0 ≤ nI n := nI_pos' (by omega)
  have h1 : nI n ≤ 40 := nI_le (a := n) (b := 40) hn (by decide)
  unfold f_X9_isPart ms_run
  rw [if_pos (me_in hs (by decide)), if_pos (me_in hs (by decide)), me_n (by omega), h]
  generalize nI n = z at h0 h1
  by_cases q1 : x < 0
  · rw [if_pos q1, if_pos q1]
  · rw [if_neg q1, if_neg q1]
    by_cases q2 : y < 0
    · rw [if_pos q2, if_pos q2]
    · rw [if_neg q2, if_neg q2]
      by_cases q3 : z < x
      · rw [if_pos q3]
        split
        · rfl
        · rw [if_pos (by grind)]
      · rw [if_neg q3]
        by_cases q4 : z - x < y
        · rw [if_pos q4]
          split
          · rfl
          · rw [if_pos (by grind)]
        · rw [if_neg q4, if_neg (show ¬ z < y by grind), if_neg (show ¬ z - y < x by grind)]
theorem ms_run_1 {n : Nat} {x y : Int32} (hn : n ≤ 40) : ms_run (nI n) x y = 0 ∨ ms_run (nI n) x y = 1 ∧ ∃ f k, x = nI f ∧ y = nI k ∧ f + k ≤ n := by
  have h0 : 0 ≤ nI n := nI_pos' (by omega)
  have h1 : nI n ≤ 40 := nI_le (a := n) (b := 40) hn (by decide)
  unfold ms_run
  by_cases q1 : x < 0
  · rw [if_pos q1]; exact Or.inl rfl
  rw [if_neg q1]
  by_cases q2 : y < 0
  · rw [if_pos q2]; exact Or.inl rfl
  rw [if_neg q2]
  by_cases q3 : nI n < x
  · rw [if_pos q3]; exact Or.inl rfl
  rw [if_neg q3]
  by_cases q4 : nI n - x < y
  · rw [if_pos q4]; exact Or.inl rfl
  rw [if_neg q4]
  refine Or.inr ⟨rfl, ?_⟩
  obtain ⟨f, hf, rfl⟩ := nI_of2 (M := nI n) (n := n) (nI_toInt (by omega)) q1 (Int32.not_lt.mp q3)
  rw [pk_sub hf] at q4
  obtain ⟨k, hk, rfl⟩ := nI_of2 (M := nI (n - f)) (n := n - f) (nI_toInt (by omega)) q2 (Int32.not_lt.mp q4)
  exact ⟨f, k, rfl, rfl, by omega⟩
theorem mr_40b (s f j : Nat) : (((40 : Int32) * nI s) + nI f) + nI j = nI (40 * s + f + j) := by rw [mr_40, nI_add]
theorem e_X9_copy102 {s f t to' k : Nat} (hs : s < 4) (hk : f + k ≤ 40) (x3 x4 : Int32) (a : Nat) : ∀ (d n i : Nat) (M : zz_M), d < n → i + d = k → ∃ M' : zz_M, b_X9_copy_102 n a (nI s) (nI f) x3 x4 (nI k) (nI i) M = b_X9_copy_139 zz_fuel a x3 x4 (nI k) 0 M' ∧ (∀ j, i ≤ j → j < k → zz_j M' 138 j = zz_j M 137 (40 * s + f + j)) ∧ (∀ j, j < i → zz_j M' 138 j = zz_j M 138 j) ∧ (∀ q, q ≠ 138 → zz_j M' q = zz_j M q) ∧ ∀ q, zz_i M' q = zz_i M q
  | 0, n + 1, i, M, _, hi => by
    have : i = k := by omega
    subst this
    unfold b_X9_copy_102
    rw [if_pos (nI_le (Nat.le_refl _) (by omega))]
    exact ⟨M, rfl, fun j h1 h2 => by omega, fun _ _ => rfl, fun _ _ => rfl, fun _ => rfl⟩
  | d + 1, n + 1, i, M, hd, hi => by
    unfold b_X9_copy_102
    rw [if_neg (nI_ge (by omega) (by omega)), mr_40b, if_pos (me_in (show 40 * s + f + i < 160 by omega) (by decide)), if_pos (me_in (show i < 40 by omega) (by decide)), me_n (show i < 2 ^ 31 by omega), me_n (show 40 * s + f + i < 2 ^ 31 by omega), me_wr, me_wr, nI_1]
    obtain ⟨M', h1, h2, h3, h4, h5⟩ := e_X9_copy102 (t := t) (to' := to') hs hk x3 x4 a d n (i + 1) (zz_sj M 138 i (zz_j M 137 (40 * s + f + i))) (by omega) (by omega)
    refine ⟨M', h1, fun j g1 g2 => ?_, fun j g => ?_, fun q g => ?_, fun q => ?_⟩
    · by_cases q : j = i
      · rw [q, h3 i (by omega), me_jhit rfl rfl]
      · rw [h2 j (by omega) g2, me_jne (by omega)]
    · rw [h3 j (by omega), me_jne (by omega)]
    · rw [h4 q g]; exact zz_j_sj_ne g
    · rw [h5 q]; rfl
theorem e_X9_copy139 {t f k : Nat} (ht : t < 4) (hk : f + k ≤ 40) (a : Nat) : ∀ (d n i : Nat) (M : zz_M), d < n → i + d = k → ∃ M' : zz_M, b_X9_copy_139 n a (nI t) (nI f) (nI k) (nI i) M = some (nI k, M') ∧ (∀ j, i ≤ j → j < k → zz_j M' 137 (40 * t + f + j) = zz_j M 138 j) ∧ (∀ j, ¬ (40 * t + f + i ≤ j ∧ j < 40 * t + f + k) → zz_j M' 137 j = zz_j M 137 j) ∧ (∀ q, q ≠ 137 → zz_j M' q = zz_j M q) ∧ ∀ q, zz_i M' q = zz_i M q
  | 0, n + 1, i, M, _, hi => by
    have : i = k := by omega
    subst this
    unfold b_X9_copy_139
    rw [if_pos (nI_le (Nat.le_refl _) (by omega))]
    exact ⟨M, rfl, fun j h1 h2 => by omega, fun _ _ => rfl, fun _ _ => rfl, fun _ => rfl⟩
  | d + 1, n + 1, i, M, hd, hi => by
    unfold b_X9_copy_139
    rw [if_neg (nI_ge (by omega) (by omega)), if_pos (me_in (show i < 40 by omega) (by decide)), mr_40b, if_pos (me_in (show 40 * t + f + i < 160 by omega) (by decide)), me_n (show i < 2 ^ 31 by omega), me_n (show 40 * t + f + i < 2 ^ 31 by omega), me_wr, me_wr, nI_1]
    obtain ⟨M', h1, h2, h3, h4, h5⟩ := e_X9_copy139 ht hk a d n (i + 1) (zz_sj M 137 (40 * t + f + i) (zz_j M 138 i)) (by omega) (by omega)
    refine ⟨M', h1, fun j g1 g2 => ?_, fun j g => ?_, fun q g => ?_, fun q => ?_⟩
    · by_cases q : j = i
      · rw [q, h3 _ (by omega), me_jhit rfl rfl]
      · rw [h2 j (by omega) g2, me_jne (by omega)]
    · rw [h3 j (by omega), me_jne (by omega)]
    · rw [h4 q g]; exact zz_j_sj_ne g
    · rw [h5 q]; rfl
theorem op_copy {M : zz_M} (hI : mi_Inv M) (x1 x2 x3 x4 x5 : Int32) : zw_eq mi_Inv (f_X8_copy 0 x1 x2 x3 x4 x5) (f_X9_copy 129 x1 x2 x3 x4 x5) M := by
  obtain ⟨Z, hO, hC, hD⟩ := hI
  rcases ms_in_nat (x := x1) (l := 0) (h := 3) (a := 0) (b := 3) rfl rfl (by omega) (by omega) with h | ⟨h, s, _, hs, rfl⟩
  · refine mi_find0 (r := -1000000001) 0 (by decide) hO hC hD ?_ (fun M1 hs _ => ?_)
    · simp only [f_X8_copy, e_X8_isSheet, h, zz_bd_some, me_wr, me_t0, me_t1, if_true, if_false, e_fi0]
    · simp only [f_X9_copy, e_X9_isSheet, h, zz_bd_some, me_wr, me_t0, me_t1, if_true, if_false, e_fs0]
  rcases ms_in_nat (x := x3) (l := 0) (h := 3) (a := 0) (b := 3) rfl rfl (by omega) (by omega) with h3 | ⟨h3, t, _, ht, rfl⟩
  · refine mi_find0 (r := -1000000001) 0 (by decide) hO hC hD ?_ (fun M1 hs _ => ?_)
    · simp only [f_X8_copy, e_X8_isSheet, h, h3, zz_bd_some, me_wr, me_t0, me_t1, if_true, if_false, e_fi0]
    · simp only [f_X9_copy, e_X9_isSheet, h, h3, zz_bd_some, me_wr, me_t0, me_t1, if_true, if_false, e_fs0]
  have hs4 : s < 4 := by omega
  have hsi : zz_in (nI s) 4 = true := me_in hs4 (by decide)
  have hsn : zz_n (nI s) = s := me_n (by omega)
  have ht4 : t < 4 := by omega
  have hti : zz_in (nI t) 4 = true := me_in ht4 (by decide)
  have htn : zz_n (nI t) = t := me_n (by omega)
  obtain ⟨c0, c1, c2⟩ := hC.2.2.2.1 s hs4
  obtain ⟨t0, t1, t2⟩ := hC.2.2.2.1 t ht4
  obtain ⟨hz40, hbits⟩ := hO.2.2.2 s hs4
  obtain ⟨gz40, gbits⟩ := hO.2.2.2 t ht4
  by_cases hb : Z.2.2.2.1.1 s = 0
  · refine mi_find0 (r := -1000000006) 5 (by decide) hO hC hD ?_ (fun M1 _ hd => ?_)
    · unfold f_X8_copy
      rw [e_X8_isSheet, zz_bd_some, h, if_neg (show ¬ (1 : Int32) = 0 by decide), e_X8_isSheet, zz_bd_some, h3, if_neg (show ¬ (1 : Int32) = 0 by decide), if_pos hsi, if_pos hti, hsn, htn, e_X3_missing c0, if_pos hb, zz_bd_some, if_neg (show ¬ (1 : Int32) = 0 by decide), e_fi5, zz_bd_some]
    · unfold f_X9_copy
      rw [e_X9_isSheet, zz_bd_some, h, if_neg (show ¬ (1 : Int32) = 0 by decide), e_X9_isSheet, zz_bd_some, h3, if_neg (show ¬ (1 : Int32) = 0 by decide), if_pos hsi, hsn, (hd.2.2.2.1 s hs4).1, if_pos hb, e_fs5, zz_bd_some]
  by_cases gb : Z.2.2.2.1.1 t = 0
  · refine mi_find0 (r := -1000000006) 5 (by decide) hO hC hD ?_ (fun M1 _ hd => ?_)
    · unfold f_X8_copy
      rw [e_X8_isSheet, zz_bd_some, h, if_neg (show ¬ (1 : Int32) = 0 by decide), e_X8_isSheet, zz_bd_some, h3, if_neg (show ¬ (1 : Int32) = 0 by decide), if_pos hsi, if_pos hti, hsn, htn, e_X3_missing c0, if_neg hb, zz_bd_some, if_pos (show (0 : Int32) = 0 from rfl), e_X3_missing t0, if_pos gb, zz_bd_some, if_neg (show ¬ (1 : Int32) = 0 by decide), e_fi5, zz_bd_some]
    · unfold f_X9_copy
      rw [e_X9_isSheet, zz_bd_some, h, if_neg (show ¬ (1 : Int32) = 0 by decide), e_X9_isSheet, zz_bd_some, h3, if_neg (show ¬ (1 : Int32) = 0 by decide), if_pos hsi, hsn, (hd.2.2.2.1 s hs4).1, if_neg hb, if_pos hti, htn, (hd.2.2.2.1 t ht4).1, if_pos gb, e_fs5, zz_bd_some]
  by_cases he : ¬ Z.2.2.2.1.1 s = Z.2.2.2.1.1 t
  · refine mi_find0 (r := -1000000003) 2 (by decide) hO hC hD ?_ (fun M1 _ hd => ?_)
    · unfold f_X8_copy
      rw [e_X8_isSheet, zz_bd_some, h, if_neg (show ¬ (1 : Int32) = 0 by decide), e_X8_isSheet, zz_bd_some, h3, if_neg (show ¬ (1 : Int32) = 0 by decide), if_pos hsi, if_pos hti, hsn, htn, e_X3_missing c0, if_neg hb, zz_bd_some, if_pos (show (0 : Int32) = 0 from rfl), e_X3_missing t0, if_neg gb, zz_bd_some, if_pos (show (0 : Int32) = 0 from rfl), c0, t0, if_neg he, e_fi2, zz_bd_some]
    · unfold f_X9_copy
      rw [e_X9_isSheet, zz_bd_some, h, if_neg (show ¬ (1 : Int32) = 0 by decide), e_X9_isSheet, zz_bd_some, h3, if_neg (show ¬ (1 : Int32) = 0 by decide), if_pos hsi, hsn, (hd.2.2.2.1 s hs4).1, if_neg hb, if_pos hti, htn, (hd.2.2.2.1 t ht4).1, if_neg gb, if_pos hsi, if_pos hti, if_neg he, e_fs2, zz_bd_some]
  have he : Z.2.2.2.1.1 s = Z.2.2.2.1.1 t := Decidable.not_not.mp he
  have C8 : ∀ (v w : Int32), ms_run (nI (Z.2.2.2.1.2.1 s)) x2 x5 = v → ms_run (nI (Z.2.2.2.1.2.1 t)) x4 x5 = w → (v = 0 ∨ v = 1 ∧ w = 0) → f_X8_copy 0 (nI s) x2 (nI t) x4 x5 M = some (-1000000001, ms_fC 0 M) := by
    intro v w hv hw hvw
    unfold f_X8_copy
    rw [e_X8_isSheet, zz_bd_some, h, if_neg (show ¬ (1 : Int32) = 0 by decide), e_X8_isSheet, zz_bd_some, h3, if_neg (show ¬ (1 : Int32) = 0 by decide), if_pos hsi, if_pos hti, hsn, htn, e_X3_missing c0, if_neg hb, zz_bd_some, if_pos (show (0 : Int32) = 0 from rfl), e_X3_missing t0, if_neg gb, zz_bd_some, if_pos (show (0 : Int32) = 0 from rfl), c0, t0, if_pos he, e_X3_hasRun c1, zz_bd_some, hv]
    rcases hvw with q | ⟨q, q2⟩
    · rw [if_pos q, e_fi0, zz_bd_some]
    · rw [if_neg (by rw [q]; decide), e_X3_hasRun t1, zz_bd_some, hw, if_pos q2, e_fi0, zz_bd_some]
  have C9 : ∀ (v w : Int32) (M1 : zz_M), mi_D M1 Z → ms_run (nI (Z.2.2.2.1.2.1 s)) x2 x5 = v → ms_run (nI (Z.2.2.2.1.2.1 t)) x4 x5 = w → (v = 0 ∨ v = 1 ∧ w = 0) → f_X9_copy 129 (nI s) x2 (nI t) x4 x5 M1 = some (-1000000001, ms_fM 0 M1) := by
    intro v w M1 hd hv hw hvw
    unfold f_X9_copy
    rw [e_X9_isSheet, zz_bd_some, h, if_neg (show ¬ (1 : Int32) = 0 by decide), e_X9_isSheet, zz_bd_some, h3, if_neg (show ¬ (1 : Int32) = 0 by decide), if_pos hsi, hsn, (hd.2.2.2.1 s hs4).1, if_neg hb, if_pos hti, htn, (hd.2.2.2.1 t ht4).1, if_neg gb, if_pos hsi, if_pos hti, if_pos he, e_X9_isPart hs4 hz40 (hd.2.2.2.1 s hs4).2.1, zz_bd_some, hv]
    rcases hvw with q | ⟨q, q2⟩
    · rw [if_pos q, e_fs0, zz_bd_some]
    · rw [if_neg (by rw [q]; decide), e_X9_isPart ht4 gz40 (hd.2.2.2.1 t ht4).2.1, zz_bd_some, hw, if_pos q2, e_fs0, zz_bd_some]
  rcases ms_run_1 (x := x2) (y := x5) hz40 with hv | ⟨hv, f, k, rfl, rfl, hfk⟩
  · exact mi_find0 (r := -1000000001) 0 (by decide) hO hC hD (C8 _ _ hv rfl (Or.inl rfl)) (fun M1 _ hd => C9 _ _ M1 hd hv rfl (Or.inl rfl))
  rcases ms_run_1 (x := x4) (y := nI k) gz40 with hw | ⟨hw, g, k', rfl, ek, hgk⟩
  · exact mi_find0 (r := -1000000001) 0 (by decide) hO hC hD (C8 _ _ hv hw (Or.inr ⟨rfl, rfl⟩)) (fun M1 _ hd => C9 _ _ M1 hd hv hw (Or.inr ⟨rfl, rfl⟩))
  have ek : k = k' := by
    have hk' : k' ≤ 40 := by omega
    exact (nI_eq (by omega) (by omega)).mp ek
  subst ek
  have hcp : zz_cpok (nI f) (nI g) (nI k) 40 40 = true := by
    simp only [zz_cpok, nI_toInt (show f < 2 ^ 31 by omega), nI_toInt (show g < 2 ^ 31 by omega), nI_toInt (show k < 2 ^ 31 by omega), Bool.and_eq_true, decide_eq_true_eq]
    omega
  have hjc : ∀ j, j < 40 → zz_j (zz_cj M (119 + 1 + 2 * s + 1) f (119 + 1 + 2 * t + 1) g k) (119 + 1 + 2 * t + 1) j = (if g ≤ j ∧ j < g + k then Z.2.2.2.1.2.2 s (f + (j - g)) else Z.2.2.2.1.2.2 t j) := by
    intro j hj
    show (if 119 + 1 + 2 * t + 1 = 119 + 1 + 2 * t + 1 then va_cpy (zz_j M (119 + 1 + 2 * s + 1)) (zz_j M (119 + 1 + 2 * t + 1)) f g k j else _) = _
    rw [if_pos rfl]
    unfold va_cpy
    split
    · rw [c2 _ (by omega)]
    · rw [t2 j hj]
  have hr : ∀ M1 : zz_M, mi_D M1 Z → ∃ M2 : zz_M, f_X9_copy 129 (nI s) (nI f) (nI t) (nI g) (nI k) M1 = some (nI k, M2) ∧ (∀ q, zz_i M2 q = zz_i M1 q) ∧ (∀ q, q < 129 → zz_j M2 q = zz_j M1 q) ∧ ms_HM M2 (ms_hs Z.2.2.2.1 t (Z.2.2.2.1.1 t) (Z.2.2.2.1.2.1 t) (fun j => if g ≤ j ∧ j < g + k then Z.2.2.2.1.2.2 s (f + (j - g)) else Z.2.2.2.1.2.2 t j)) := by
    intro M1 hd
    obtain ⟨d0, d1, d2⟩ := hd.2.2.2.1 s hs4
    obtain ⟨e0, e1, e2⟩ := hd.2.2.2.1 t ht4
    obtain ⟨M2, b1, b2, b3, b4, b5⟩ := e_X9_copy102 (t := 0) (to' := 0) hs4 (show f + k ≤ 40 by omega) (nI t) (nI g) 129 k zz_fuel 0 M1 (by show k < 5000; omega) (by omega)
    obtain ⟨M3, a1, a2, a3, a4, a5⟩ := e_X9_copy139 ht4 (show g + k ≤ 40 by omega) 129 k zz_fuel 0 M2 (by show k < 5000; omega) (by omega)
    refine ⟨M3, ?_, fun q => by rw [a5, b5], fun q hq => by rw [a4 q (by omega), b4 q (by omega)], hd.2.2.2.1.set (fun q _ => by rw [a5, b5]) (fun q _ => by rw [a5, b5]) (fun j hj => by rw [a3 j (by omega), b4 137 (by omega)]) (by rw [a5, b5]; exact e0) (by rw [a5, b5]; exact e1) (fun j hj => ?_)⟩
    · unfold f_X9_copy
      rw [e_X9_isSheet, zz_bd_some, h, if_neg (show ¬ (1 : Int32) = 0 by decide), e_X9_isSheet, zz_bd_some, h3, if_neg (show ¬ (1 : Int32) = 0 by decide), if_pos hsi, hsn, d0, if_neg hb, if_pos hti, htn, e0, if_neg gb, if_pos hsi, if_pos hti, if_pos he, e_X9_isPart hs4 hz40 d1, zz_bd_some, hv, if_neg (show ¬ (1 : Int32) = 0 by decide), e_X9_isPart ht4 gz40 e1, zz_bd_some, hw, if_neg (show ¬ (1 : Int32) = 0 by decide)]
      exact b1.trans a1
    · by_cases q : g ≤ j ∧ j < g + k
      · rw [if_pos q]
        have z := a2 (j - g) (by omega) (by omega)
        rw [show 40 * t + g + (j - g) = 40 * t + j by omega] at z
        rw [z, b2 (j - g) (by omega) (by omega)]
        have y := d2 (f + (j - g)) (by omega)
        rw [← Nat.add_assoc] at y
        exact y
      · rw [if_neg q, a3 _ (by omega), b4 137 (by omega), e2 j hj]
  have hD1 : mi_D (zz_cj M (119 + 1 + 2 * s + 1) f (119 + 1 + 2 * t + 1) g k) Z := hD.cl hO (fun _ _ => rfl) (fun q hq => zz_j_cj_ne (by omega))
  obtain ⟨M2, r1, r2, r3, r4⟩ := hr _ hD1
  refine mi_sh (r := nI k) (M1 := zz_cj M (119 + 1 + 2 * s + 1) f (119 + 1 + 2 * t + 1) g k) (M2 := M2) (H := ms_hs Z.2.2.2.1 t (Z.2.2.2.1.1 t) (Z.2.2.2.1.2.1 t) (fun j => if g ≤ j ∧ j < g + k then Z.2.2.2.1.2.2 s (f + (j - g)) else Z.2.2.2.1.2.2 t j)) hO hC hD ?_ (fun _ _ => rfl) (fun q hq => zz_j_cj_ne (by omega)) (hC.2.2.2.1.set (fun _ _ _ _ => rfl) (fun q hq => zz_j_cj_ne hq) t0 t1 hjc) (fun _ => r1) (fun q _ _ => r2 q) r3 (fun _ => r4) (ms_hs_ok hO.2.2.2 gz40 gbits)
  unfold f_X8_copy
  rw [e_X8_isSheet, zz_bd_some, h, if_neg (show ¬ (1 : Int32) = 0 by decide), e_X8_isSheet, zz_bd_some, h3, if_neg (show ¬ (1 : Int32) = 0 by decide), if_pos hsi, if_pos hti, hsn, htn, e_X3_missing c0, if_neg hb, zz_bd_some, if_pos (show (0 : Int32) = 0 from rfl), e_X3_missing t0, if_neg gb, zz_bd_some, if_pos (show (0 : Int32) = 0 from rfl), c0, t0, if_pos he, e_X3_hasRun c1, zz_bd_some, hv, if_neg (show ¬ (1 : Int32) = 0 by decide), e_X3_hasRun t1, zz_bd_some, hw, if_neg (show ¬ (1 : Int32) = 0 by decide), if_pos hcp, me_wr, me_n (show f < 2 ^ 31 by omega), me_n (show g < 2 ^ 31 by omega), me_n (show k < 2 ^ 31 by omega)]
