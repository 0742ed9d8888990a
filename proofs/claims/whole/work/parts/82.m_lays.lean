/-! Sheets laid and shown. -/
theorem e_wrong0 {x : Int32} (h : ms_in x 0 3 = 0) (a : Nat) (M : zz_M) : f_X8_wrongSheet a x M = some (-1000000001, M) := by
  unfold f_X8_wrongSheet
  rw [e_X8_isSheet, zz_bd_some, h, if_pos (show (0 : Int32) = 0 from rfl)]
theorem e_wrong {s : Nat} {b : Int32} {M : zz_M} (hs : s < 4) (h0 : zz_i M (119 + 1 + 2 * s) 0 = b) (a : Nat) : f_X8_wrongSheet a (nI s) M = some (if b = 0 then -1000000006 else 0, M) := by
  have h : ms_in (nI s) 0 3 = 1 := ms_in_1 (nI_pos' (by omega)) (nI_le (a := s) (b := 3) (by omega) (by decide))
  unfold f_X8_wrongSheet
  rw [e_X8_isSheet, zz_bd_some, h, if_neg (show ¬ (1 : Int32) = 0 by decide), if_pos (me_in hs (by decide)), me_n (by omega), e_X3_missing h0, zz_bd_some]
  by_cases q : b = 0
  · rw [if_pos q, if_pos q, if_neg (show ¬ (1 : Int32) = 0 by decide)]
  · rw [if_neg q, if_neg q, if_pos (show (0 : Int32) = 0 from rfl)]
theorem ms_l4 {y : Int64} (h0 : ¬ y < 0) (h4 : ¬ 4 ≤ y) : ∃ v, v < 4 ∧ y.toInt32 = nI v := by
  rw [Int64.lt_iff_toInt_lt] at h0
  rw [Int64.le_iff_toInt_le] at h4
  have e0 : (0 : Int64).toInt = 0 := rfl
  have e4 : (4 : Int64).toInt = 4 := rfl
  refine ⟨y.toInt.toNat, by omega, ?_⟩
  apply Int32.toInt_inj.mp
  rw [Int64.toInt_toInt32, nI_toInt (by omega)]
  simp only [Int.bmod]
  omega
def ms_lays (kd : Int32) (N : Nat → Int64) : Nat → Nat → ms_X → Nat × ms_X
  | 0, i, X => (i, X)
  | d + 1, i, X => if X.1.length = 40 then (i, X) else if N i < 0 then (i, X) else if 4 ≤ N i then (i, X) else ms_lays kd N d (i + 1) (ms_dv kd X (zz_n (N i).toInt32))
theorem e_X8_lays59 {s c z : Nat} {kd : Int32} {N : Nat → Int64} (hs : s < 4) (hc : c < 10) (hz : z ≤ 40) : ∀ (d n i : Nat) (M : zz_M) (X : ms_X), d < n → i + d = z → ms_KC M (1 + 7 + 1 + 2 * c) kd X.1 → ms_RV M (1 + 1) X.2 → ms_okX X → zz_i M (119 + 1 + 2 * s) 1 = nI z → (∀ j, j < 40 → zz_j M (119 + 1 + 2 * s + 1) j = N j) →
    ∃ M' : zz_M, b_X8_lays_59 n 0 (119 + 1 + 2 * s) (1 + 7 + 1 + 2 * c) (nI i) (nI i) M = some (nI (ms_lays kd N d i X).1, M') ∧ ms_KC M' (1 + 7 + 1 + 2 * c) kd (ms_lays kd N d i X).2.1 ∧ ms_RV M' (1 + 1) (ms_lays kd N d i X).2.2 ∧ ms_okX (ms_lays kd N d i X).2 ∧ me_same (fun q => q = 1 + 7 + 1 + 2 * c ∨ q = 1 + 7 + 1 + 2 * c + 1 ∨ 1 + 1 ≤ q ∧ q < 1 + 7) M M'
  | 0, n + 1, i, M, X, _, hi, hK, hR, hok, h1, hN => by
    have : i = z := by omega
    subst this
    unfold b_X8_lays_59
    rw [h1, if_pos (nI_le (Nat.le_refl _) (by omega))]
    exact ⟨M, rfl, hK, hR, hok, me_same.rf⟩
  | d + 1, n + 1, i, M, X, hd, hi, hK, hR, hok, h1, hN => by
    have hl := hok.1.1
    unfold b_X8_lays_59 ms_lays
    rw [h1, if_neg (nI_ge (by omega) (by omega)), if_pos (me_in (show i < 40 by omega) (by decide)), me_n (show i < 2 ^ 31 by omega), me_wr, hN i (by omega)]
    have stop : ∀ o : Option (Int32 × zz_M), o = some (nI i, M) → ∃ M' : zz_M, o = some (nI (i, X).1, M') ∧ ms_KC M' (1 + 7 + 1 + 2 * c) kd (i, X).2.1 ∧ ms_RV M' (1 + 1) (i, X).2.2 ∧ ms_okX (i, X).2 ∧ me_same (fun q => q = 1 + 7 + 1 + 2 * c ∨ q = 1 + 7 + 1 + 2 * c + 1 ∨ 1 + 1 ≤ q ∧ q < 1 + 7) M M' := fun o ho => ⟨M, ho, hK, hR, hok, me_same.rf⟩
    by_cases q40 : X.1.length = 40
    · rw [if_pos q40]
      refine stop _ ?_
      split
      · rfl
      · split
        · rfl
        · rw [e_X0_isThick hK.2.1 hl, if_pos q40, zz_bd_some, if_neg (show ¬ (1 : Int32) = 0 by decide)]
    rw [if_neg q40]
    by_cases q0 : N i < 0
    · rw [if_pos q0]
      exact stop _ (if_pos ((lg_cmp_lt _ _).mpr q0))
    rw [if_neg q0, if_neg (fun w => q0 ((lg_cmp_lt _ _).mp w))]
    by_cases q4 : 4 ≤ N i
    · rw [if_pos q4]
      exact stop _ (if_pos ((lg_cmp_ge _ _).mpr q4))
    rw [if_neg q4, if_neg (fun w => q4 ((lg_cmp_ge _ _).mp w)), e_X0_isThick hK.2.1 hl, if_neg q40, zz_bd_some, if_pos (show (0 : Int32) = 0 from rfl)]
    obtain ⟨v, hv, ev⟩ := ms_l4 q0 q4
    rw [ev, if_pos (me_in hv (by decide)), me_n (show v < 2 ^ 31 by omega), ms_v4]
    obtain ⟨M1, hM1, hK1, hR1, hS1⟩ := e_X0_dv hv hK hR hok (by omega)
    rw [hM1, zz_bd_some, me_wr, me_wr, nI_1]
    obtain ⟨M2, hM2, hK2, hR2, hok2, hS2⟩ := e_X8_lays59 (kd := kd) (N := N) hs hc hz d n (i + 1) M1 (ms_dv kd X v) (by omega) (by omega) hK1 hR1 (ms_dv_ok hv hok) (by rw [hS1.at (by omega)]; exact h1) (fun j hj => by rw [hS1.2]; exact hN j hj)
    exact ⟨M2, hM2, hK2, hR2, hok2, (hS1.wk (fun q hq => by omega)).tr hS2⟩
theorem e_X9_lays55 {s c z : Nat} {kd : Int32} {N : Nat → Int64} (hs : s < 4) (hc : c < 10) (hz : z ≤ 40) : ∀ (d n i : Nat) (M : zz_M) (X : ms_X), d < n → i + d = z → ms_KM M 130 (20 + 42 * c) kd X.1 → ms_RW M 130 X.2 → ms_okX X → zz_i M 136 s = nI z → (∀ j, j < 40 → zz_j M 137 (40 * s + j) = N j) →
    ∃ M' : zz_M, b_X9_lays_55 n 129 (nI s) (nI c) (nI i) M = some (nI (ms_lays kd N d i X).1, M') ∧ ms_KM M' 130 (20 + 42 * c) kd (ms_lays kd N d i X).2.1 ∧ ms_RW M' 130 (ms_lays kd N d i X).2.2 ∧ mr_same (fun j => 20 + 42 * c < j ∧ j < 20 + 42 * c + 42 ∨ 4 ≤ j ∧ j < 20) M M'
  | 0, n + 1, i, M, X, _, hi, hK, hR, hok, h1, hN => by
    have : i = z := by omega
    subst this
    unfold b_X9_lays_55
    rw [if_pos (me_in hs (by decide)), me_n (show s < 2 ^ 31 by omega), h1, if_pos (nI_le (Nat.le_refl _) (by omega))]
    exact ⟨M, rfl, hK, hR, mr_same.rf⟩
  | d + 1, n + 1, i, M, X, hd, hi, hK, hR, hok, h1, hN => by
    have hl := hok.1.1
    have i160 : zz_in (nI (40 * s + i)) 160 = true := me_in (by omega) (by decide)
    have n160 : zz_n (nI (40 * s + i)) = 40 * s + i := me_n (by omega)
    unfold b_X9_lays_55 ms_lays
    rw [if_pos (me_in hs (by decide)), me_n (show s < 2 ^ 31 by omega), h1, if_neg (nI_ge (by omega) (by omega)), e_X9_many hc, zz_bd_some, hK.2.1]
    have stop : ∀ o : Option (Int32 × zz_M), o = some (nI i, M) → ∃ M' : zz_M, o = some (nI (i, X).1, M') ∧ ms_KM M' 130 (20 + 42 * c) kd (i, X).2.1 ∧ ms_RW M' 130 (i, X).2.2 ∧ mr_same (fun j => 20 + 42 * c < j ∧ j < 20 + 42 * c + 42 ∨ 4 ≤ j ∧ j < 20) M M' := fun o ho => ⟨M, ho, hK, hR, mr_same.rf⟩
    by_cases q40 : X.1.length = 40
    · rw [if_pos q40]
      exact stop _ (if_pos (by rw [q40]; decide))
    rw [if_neg q40, if_neg (me_ge (y := 40) X.1.length 40 rfl (by omega) (by decide)), mr_40, if_pos i160, n160, hN i (by omega)]
    by_cases q0 : N i < 0
    · rw [if_pos q0]
      exact stop _ (if_pos ((lg_cmp_lt _ _).mpr q0))
    rw [if_neg q0, if_neg (fun w => q0 ((lg_cmp_lt _ _).mp w)), if_pos i160]
    by_cases q4 : 4 ≤ N i
    · rw [if_pos q4]
      exact stop _ (if_pos ((lg_cmp_ge _ _).mpr q4))
    rw [if_neg q4, if_neg (fun w => q4 ((lg_cmp_ge _ _).mp w)), if_pos i160]
    obtain ⟨v, hv, ev⟩ := ms_l4 q0 q4
    rw [ev, me_n (show v < 2 ^ 31 by omega)]
    obtain ⟨M1, hM1, hK1, hR1, hS1⟩ := e_X9_dv hc hv hK hR hok 129
    rw [hM1, zz_bd_some, me_wr, nI_1]
    obtain ⟨M2, hM2, hK2, hR2, hS2⟩ := e_X9_lays55 (kd := kd) (N := N) hs hc hz d n (i + 1) M1 (ms_dv kd X v) (by omega) (by omega) hK1 hR1 (ms_dv_ok hv hok) (by rw [hS1.ot (by decide)]; exact h1) (fun j hj => by rw [hS1.j]; exact hN j hj)
    exact ⟨M2, hM2, hK2, hR2, hS1.tr hS2⟩
theorem ms_lays_3 (kd : Int32) (N : Nat → Int64) : ∀ (d i : Nat) (X : ms_X), (ms_lays kd N d i X).2.2 3 = X.2 3
  | 0, _, _ => rfl
  | d + 1, i, X => by
    unfold ms_lays
    split
    · rfl
    · split
      · rfl
      · split
        · rfl
        · rw [ms_lays_3 kd N d (i + 1)]
          unfold ms_dv
          simp only
          rw [ms_u_ne (by omega), ms_u_ne (by omega)]
theorem op_lays {M : zz_M} (hI : mi_Inv M) (x1 x2 : Int32) : zw_eq mi_Inv (f_X8_lays 0 x1 x2) (f_X9_lays 129 x1 x2) M := by
  obtain ⟨Z, hO, hC, hD⟩ := hI
  rcases ms_in_nat (x := x1) (l := 0) (h := 3) (a := 0) (b := 3) rfl rfl (by omega) (by omega) with h | ⟨h, s, _, hs, rfl⟩
  · refine mi_find0 (r := -1000000001) 0 (by decide) hO hC hD ?_ (fun M1 _ _ => ?_)
    · unfold f_X8_lays
      rw [e_wrong0 h, zz_bd_some, if_neg (show ¬ (-1000000001 : Int32) = 0 by decide), e_fi0, zz_bd_some]
    · unfold f_X9_lays b_X9_lays_41
      rw [e_X9_isSheet, zz_bd_some, h, if_pos (show (0 : Int32) = 0 from rfl), if_neg (show ¬ (-1000000001 : Int32) = 0 by decide), e_fs0, zz_bd_some]
  have hs4 : s < 4 := by omega
  have hsi : zz_in (nI s) 4 = true := me_in hs4 (by decide)
  have hsn : zz_n (nI s) = s := me_n (by omega)
  obtain ⟨c0, c1, c2⟩ := hC.2.2.2.1 s hs4
  obtain ⟨hz40, hbits⟩ := hO.2.2.2 s hs4
  by_cases hb : Z.2.2.2.1.1 s = 0
  · refine mi_find0 (r := -1000000006) 5 (by decide) hO hC hD ?_ (fun M1 _ hd => ?_)
    · unfold f_X8_lays
      rw [e_wrong hs4 c0, if_pos hb, zz_bd_some, if_neg (show ¬ (-1000000006 : Int32) = 0 by decide), e_fi5, zz_bd_some]
    · unfold f_X9_lays b_X9_lays_41
      rw [e_X9_isSheet, zz_bd_some, h, if_neg (show ¬ (1 : Int32) = 0 by decide), if_pos hsi, hsn, (hd.2.2.2.1 s hs4).1, if_pos hb, if_neg (show ¬ (-1000000006 : Int32) = 0 by decide), e_fs5, zz_bd_some]
  rcases ms_in_has (x := x2) (n := Z.1.2.1) hO.1.2.2.1 with h2 | ⟨h2, c, hc, rfl⟩
  · refine mi_find0 (r := -1000000001) 0 (by decide) hO hC hD ?_ (fun M1 hs1 hd => ?_)
    · unfold f_X8_lays
      rw [e_wrong hs4 c0, if_neg hb, zz_bd_some, if_pos (show (0 : Int32) = 0 from rfl), e_X1_has, zz_bd_some, hC.1.2.1, h2, if_pos (show (0 : Int32) = 0 from rfl), e_fi0, zz_bd_some]
    · unfold f_X9_lays b_X9_lays_41
      rw [e_X9_isSheet, zz_bd_some, h, if_neg (show ¬ (1 : Int32) = 0 by decide), if_pos hsi, hsn, (hd.2.2.2.1 s hs4).1, if_neg hb, e_X9_isCandle, zz_bd_some, hs1.1, h2, if_pos (show (0 : Int32) = 0 from rfl), if_neg (show ¬ (-1000000001 : Int32) = 0 by decide), e_fs0, zz_bd_some]
  have hc10 : c < 10 := by have := hO.1.2.2.1; omega
  have hK := hC.1.2.2 c hc10
  have hM := hD.1.2.2 c hc
  have hzi : zz_in (nI c) 10 = true := me_in hc10 (by decide)
  have hzn : zz_n (nI c) = c := me_n (by omega)
  have hX : ms_okX ((Z.1.2.2 c).2, Z.1.1) := ⟨hM.2.2.2, hO.1.1⟩
  obtain ⟨M1, hM1, hK1, hR1, hok1, hS1⟩ := e_X8_lays59 (N := Z.2.2.2.1.2.2 s) hs4 hc10 hz40 (Z.2.2.2.1.2.1 s) zz_fuel 0 M ((Z.1.2.2 c).2, Z.1.1) (by show _ < 5000; omega) (by omega) hK hC.1.1 hX c1 c2
  have hS : me_same mi_cs M M1 := hS1.wk (fun q hq => by unfold mi_cs; omega)
  have hD1 := mi_clD hO hD hS
  obtain ⟨d0, d1, d2⟩ := hD1.2.2.2.1 s hs4
  obtain ⟨M2, hM2, hK2, hR2, hS2⟩ := e_X9_lays55 (N := Z.2.2.2.1.2.2 s) hs4 hc10 hz40 (Z.2.2.2.1.2.1 s) zz_fuel 0 M1 ((Z.1.2.2 c).2, Z.1.1) (by show _ < 5000; omega) (by omega) (hD1.1.2.2 c hc) hD1.1.2.1 hX d1 d2
  refine mi_shop (M1 := M1) (M2 := M2) (r := nI (ms_lays (Z.1.2.2 c).1 (Z.2.2.2.1.2.2 s) (Z.2.2.2.1.2.1 s) 0 ((Z.1.2.2 c).2, Z.1.1)).1) (S := ((ms_lays (Z.1.2.2 c).1 (Z.2.2.2.1.2.2 s) (Z.2.2.2.1.2.1 s) 0 ((Z.1.2.2 c).2, Z.1.1)).2.2, Z.1.2.1, ms_uc Z.1.2.2 c ((Z.1.2.2 c).1, (ms_lays (Z.1.2.2 c).1 (Z.2.2.2.1.2.2 s) (Z.2.2.2.1.2.1 s) 0 ((Z.1.2.2 c).2, Z.1.1)).2.1))) hO hC hD ?_ hS (hC.1.cand hc10 hR1 hK1 hS1) ?_ (mi_ds.mr hS2) (hD1.1.cand hR2 hK2 (hS2.wk (fun j hj => by omega))) (hO.1.cand hok1.2 (by rw [ms_lays_3]; exact hO.1.2.1) (hO.1.2.2.2 c hc10))
  · unfold f_X8_lays
    rw [e_wrong hs4 c0, if_neg hb, zz_bd_some, if_pos (show (0 : Int32) = 0 from rfl), e_X1_has, zz_bd_some, hC.1.2.1, h2, if_neg (show ¬ (1 : Int32) = 0 by decide), if_pos hsi, if_pos hzi, hsn, hzn]
    exact hM1
  · unfold f_X9_lays b_X9_lays_41
    rw [e_X9_isSheet, zz_bd_some, h, if_neg (show ¬ (1 : Int32) = 0 by decide), if_pos hsi, hsn, d0, if_neg hb, e_X9_isCandle, zz_bd_some, hD1.1.1, h2, if_neg (show ¬ (1 : Int32) = 0 by decide), if_pos (show (0 : Int32) = 0 from rfl)]
    exact hM2
theorem e_X8_show71 {s a5 m z : Nat} {kd b : Int32} {L : List Int32} (hs : s < 4) (hz : z ≤ 40) (hmz : m ≤ z) (hmL : m ≤ L.length) (ha : a5 + 1 < 119) : ∀ (d n i : Nat) (M : zz_M), d < n → i + d = m → ms_KC M a5 kd L → zz_i M (119 + 1 + 2 * s) 0 = b → zz_i M (119 + 1 + 2 * s) 1 = nI z →
    ∃ M' : zz_M, b_X8_show_71 n (119 + 1 + 2 * s) a5 (nI m) (nI i) M = some (nI m, M') ∧ (∀ j, i ≤ j → j < m → zz_j M' (119 + 1 + 2 * s + 1) j = ms_nrw b (ms_get L j).toInt64) ∧ (∀ j, ¬ (i ≤ j ∧ j < m) → zz_j M' (119 + 1 + 2 * s + 1) j = zz_j M (119 + 1 + 2 * s + 1) j) ∧ (∀ q, q ≠ 119 + 1 + 2 * s + 1 → zz_j M' q = zz_j M q) ∧ ∀ q, zz_i M' q = zz_i M q
  | 0, n + 1, i, M, _, hi, hK, h0, h1 => by
    have : i = m := by omega
    subst this
    unfold b_X8_show_71
    rw [if_pos (nI_le (Nat.le_refl _) (by omega))]
    exact ⟨M, rfl, fun j h1 h2 => by omega, fun _ _ => rfl, fun _ _ => rfl, fun _ => rfl⟩
  | d + 1, n + 1, i, M, hd, hi, hK, h0, h1 => by
    have e := hK.2.2.2.2.1.at (show i < L.length by omega)
    rw [Nat.zero_add] at e
    unfold b_X8_show_71
    rw [if_neg (nI_ge (by omega) (by omega)), if_pos (me_in (show i < 40 by omega) (by decide)), me_n (show i < 2 ^ 31 by omega), e, e_X3_put _ h0 h1 hz (by omega), zz_bd_some, me_wr, nI_1]
    obtain ⟨M', b1, b2, b3, b4, b5⟩ := e_X8_show71 (b := b) hs hz hmz hmL ha d n (i + 1) (zz_sj M (119 + 1 + 2 * s + 1) i (ms_nrw b (ms_get L i).toInt64)) (by omega) (by omega) (hK.fr rfl rfl) h0 h1
    refine ⟨M', b1, fun j g1 g2 => ?_, fun j g => ?_, fun q g => ?_, fun q => ?_⟩
    · by_cases q : j = i
      · rw [q, b3 i (by omega), me_jhit rfl rfl]
      · exact b2 j (by omega) g2
    · rw [b3 j (by omega), me_jne (by omega)]
    · rw [b4 q g]; exact zz_j_sj_ne g
    · rw [b5 q]; rfl
theorem e_X9_show55 {s c m z : Nat} {kd b : Int32} {L : List Int32} (hs : s < 4) (hc : c < 10) (hz : z ≤ 40) (hm : m = if z < L.length then z else L.length) : ∀ (d n i : Nat) (M : zz_M), d < n → i + d = m → ms_KM M 130 (20 + 42 * c) kd L → zz_i M 135 s = b → zz_i M 136 s = nI z →
    ∃ M' : zz_M, b_X9_show_55 n 129 (nI s) (nI c) (nI i) M = some (nI m, M') ∧ (∀ j, i ≤ j → j < m → zz_j M' 137 (40 * s + j) = ms_nrw b (ms_get L j).toInt64) ∧ (∀ j, ¬ (40 * s + i ≤ j ∧ j < 40 * s + m) → zz_j M' 137 j = zz_j M 137 j) ∧ (∀ q, q ≠ 137 → zz_j M' q = zz_j M q) ∧ ∀ q, zz_i M' q = zz_i M q
  | 0, n + 1, i, M, _, hi, hK, h0, h1 => by
    have : i = m := by omega
    subst this
    have hl := hK.2.2.2.1
    unfold b_X9_show_55
    rw [if_pos (me_in hs (by decide)), me_n (show s < 2 ^ 31 by omega), h1]
    refine ⟨M, ?_, fun j h1 h2 => by omega, fun _ _ => rfl, fun _ _ => rfl, fun _ => rfl⟩
    by_cases q : z ≤ i
    · rw [if_pos (nI_le q (by split at hm <;> omega))]
    · rw [if_neg (nI_ge (by omega) (by omega)), e_X9_many hc, zz_bd_some, hK.2.1, if_pos (nI_le (by split at hm <;> omega) (by split at hm <;> omega))]
  | d + 1, n + 1, i, M, hd, hi, hK, h0, h1 => by
    have hl := hK.2.2.2.1
    have hiz : i < z := by split at hm <;> omega
    have hiL : i < L.length := by split at hm <;> omega
    have e := hK.2.2.1.at hiL
    have i160 : zz_in (nI (40 * s + i)) 160 = true := me_in (by omega) (by decide)
    have n160 : zz_n (nI (40 * s + i)) = 40 * s + i := me_n (by omega)
    unfold b_X9_show_55
    rw [if_pos (me_in hs (by decide)), me_n (show s < 2 ^ 31 by omega), h1, if_neg (nI_ge hiz (by omega)), e_X9_many hc, zz_bd_some, hK.2.1, if_neg (nI_ge hiL (by omega)), if_pos (me_in hs (by decide)), e_X9_layerOf hc (i := i) (by omega) rfl, zz_bd_some, e, h0, e_X9_narrow, zz_bd_some, mr_40, if_pos i160, n160, me_wr, me_wr, nI_1]
    obtain ⟨M', b1, b2, b3, b4, b5⟩ := e_X9_show55 (b := b) hs hc hz hm d n (i + 1) (zz_sj M 137 (40 * s + i) (ms_nrw b (ms_get L i).toInt64)) (by omega) (by omega) (hK.fr (fun _ _ _ => rfl)) h0 h1
    refine ⟨M', b1, fun j g1 g2 => ?_, fun j g => ?_, fun q g => ?_, fun q => ?_⟩
    · by_cases q : j = i
      · rw [q, b3 _ (by omega), me_jhit rfl rfl]
      · exact b2 j (by omega) g2
    · rw [b3 j (by omega), me_jne (by omega)]
    · rw [b4 q g]; exact zz_j_sj_ne g
    · rw [b5 q]; rfl
theorem op_show {M : zz_M} (hI : mi_Inv M) (x1 x2 : Int32) : zw_eq mi_Inv (f_X8_show 0 x1 x2) (f_X9_show 129 x1 x2) M := by
  obtain ⟨Z, hO, hC, hD⟩ := hI
  rcases ms_in_nat (x := x1) (l := 0) (h := 3) (a := 0) (b := 3) rfl rfl (by omega) (by omega) with h | ⟨h, s, _, hs, rfl⟩
  · refine mi_find0 (r := -1000000001) 0 (by decide) hO hC hD ?_ (fun M1 _ _ => ?_)
    · unfold f_X8_show
      rw [e_wrong0 h, zz_bd_some, if_neg (show ¬ (-1000000001 : Int32) = 0 by decide), e_fi0, zz_bd_some]
    · unfold f_X9_show b_X9_show_41
      rw [e_X9_isSheet, zz_bd_some, h, if_pos (show (0 : Int32) = 0 from rfl), if_neg (show ¬ (-1000000001 : Int32) = 0 by decide), e_fs0, zz_bd_some]
  have hs4 : s < 4 := by omega
  have hsi : zz_in (nI s) 4 = true := me_in hs4 (by decide)
  have hsn : zz_n (nI s) = s := me_n (by omega)
  obtain ⟨c0, c1, c2⟩ := hC.2.2.2.1 s hs4
  obtain ⟨hz40, hbits⟩ := hO.2.2.2 s hs4
  by_cases hb : Z.2.2.2.1.1 s = 0
  · refine mi_find0 (r := -1000000006) 5 (by decide) hO hC hD ?_ (fun M1 _ hd => ?_)
    · unfold f_X8_show
      rw [e_wrong hs4 c0, if_pos hb, zz_bd_some, if_neg (show ¬ (-1000000006 : Int32) = 0 by decide), e_fi5, zz_bd_some]
    · unfold f_X9_show b_X9_show_41
      rw [e_X9_isSheet, zz_bd_some, h, if_neg (show ¬ (1 : Int32) = 0 by decide), if_pos hsi, hsn, (hd.2.2.2.1 s hs4).1, if_pos hb, if_neg (show ¬ (-1000000006 : Int32) = 0 by decide), e_fs5, zz_bd_some]
  rcases ms_in_has (x := x2) (n := Z.1.2.1) hO.1.2.2.1 with h2 | ⟨h2, c, hc, rfl⟩
  · refine mi_find0 (r := -1000000001) 0 (by decide) hO hC hD ?_ (fun M1 hs1 hd => ?_)
    · unfold f_X8_show
      rw [e_wrong hs4 c0, if_neg hb, zz_bd_some, if_pos (show (0 : Int32) = 0 from rfl), e_X1_has, zz_bd_some, hC.1.2.1, h2, if_pos (show (0 : Int32) = 0 from rfl), e_fi0, zz_bd_some]
    · unfold f_X9_show b_X9_show_41
      rw [e_X9_isSheet, zz_bd_some, h, if_neg (show ¬ (1 : Int32) = 0 by decide), if_pos hsi, hsn, (hd.2.2.2.1 s hs4).1, if_neg hb, e_X9_isCandle, zz_bd_some, hs1.1, h2, if_pos (show (0 : Int32) = 0 from rfl), if_neg (show ¬ (-1000000001 : Int32) = 0 by decide), e_fs0, zz_bd_some]
  have hc10 : c < 10 := by have := hO.1.2.2.1; omega
  have hK := hC.1.2.2 c hc10
  have hM := hD.1.2.2 c hc
  have hzi : zz_in (nI c) 10 = true := me_in hc10 (by decide)
  have hzn : zz_n (nI c) = c := me_n (by omega)
  have hl := hM.2.2.2.1
  have hm : ∃ m, m = if Z.2.2.2.1.2.1 s < (Z.1.2.2 c).2.length then Z.2.2.2.1.2.1 s else (Z.1.2.2 c).2.length := ⟨_, rfl⟩
  obtain ⟨m, hm⟩ := hm
  have hmz : m ≤ Z.2.2.2.1.2.1 s := by split at hm <;> omega
  have hmL : m ≤ (Z.1.2.2 c).2.length := by split at hm <;> omega
  obtain ⟨M1, a1, a2, a3, a4, a5⟩ := e_X8_show71 (b := Z.2.2.2.1.1 s) hs4 hz40 hmz hmL (by omega) m zz_fuel 0 M (by show m < 5000; omega) (by omega) hK c0 c1
  have hr : ∀ Mx : zz_M, mi_D Mx Z → ∃ M2 : zz_M, f_X9_show 129 (nI s) (nI c) Mx = some (nI m, M2) ∧ (∀ q, zz_i M2 q = zz_i Mx q) ∧ (∀ q, q < 129 → zz_j M2 q = zz_j Mx q) ∧ ms_HM M2 (ms_hs Z.2.2.2.1 s (Z.2.2.2.1.1 s) (Z.2.2.2.1.2.1 s) (fun j => if j < m then ms_nrw (Z.2.2.2.1.1 s) (ms_get (Z.1.2.2 c).2 j).toInt64 else Z.2.2.2.1.2.2 s j)) := by
    intro Mx hd
    obtain ⟨d0, d1, d2⟩ := hd.2.2.2.1 s hs4
    obtain ⟨M2, b1, b2, b3, b4, b5⟩ := e_X9_show55 (b := Z.2.2.2.1.1 s) hs4 hc10 hz40 hm m zz_fuel 0 Mx (by show m < 5000; omega) (by omega) (hd.1.2.2 c hc) d0 d1
    refine ⟨M2, ?_, b5, fun q hq => b4 q (by omega), hd.2.2.2.1.set (fun q _ => by rw [b5]) (fun q _ => by rw [b5]) (fun j hj => b3 j (by omega)) (by rw [b5]; exact d0) (by rw [b5]; exact d1) (fun j hj => ?_)⟩
    · unfold f_X9_show b_X9_show_41
      rw [e_X9_isSheet, zz_bd_some, h, if_neg (show ¬ (1 : Int32) = 0 by decide), if_pos hsi, hsn, d0, if_neg hb, e_X9_isCandle, zz_bd_some, hd.1.1, h2, if_neg (show ¬ (1 : Int32) = 0 by decide), if_pos (show (0 : Int32) = 0 from rfl)]
      exact b1
    · by_cases q : j < m
      · rw [if_pos q, b2 j (by omega) q]
      · rw [if_neg q, b3 _ (by omega), d2 j hj]
  have hD1 : mi_D M1 Z := hD.cl hO (fun q _ => a5 q) (fun q hq => a4 q (by omega))
  obtain ⟨M2, r1, r2, r3, r4⟩ := hr _ hD1
  refine mi_sh (r := nI m) (M1 := M1) (M2 := M2) (H := ms_hs Z.2.2.2.1 s (Z.2.2.2.1.1 s) (Z.2.2.2.1.2.1 s) (fun j => if j < m then ms_nrw (Z.2.2.2.1.1 s) (ms_get (Z.1.2.2 c).2 j).toInt64 else Z.2.2.2.1.2.2 s j)) hO hC hD ?_ (fun q _ => a5 q) (fun q hq => a4 q (by omega)) (hC.2.2.2.1.set (fun q _ _ _ => a5 q) a4 (by rw [a5]; exact c0) (by rw [a5]; exact c1) (fun j hj => ?_)) (fun _ => r1) (fun q _ _ => r2 q) r3 (fun _ => r4) (ms_hs_ok hO.2.2.2 hz40 hbits)
  · unfold f_X8_show
    rw [e_wrong hs4 c0, if_neg hb, zz_bd_some, if_pos (show (0 : Int32) = 0 from rfl), e_X1_has, zz_bd_some, hC.1.2.1, h2, if_neg (show ¬ (1 : Int32) = 0 by decide), if_pos hsi, if_pos hzi, hsn, hzn, c1, hK.2.1, me_wr]
    have em : (if nI (Z.2.2.2.1.2.1 s) < nI (Z.1.2.2 c).2.length then nI (Z.2.2.2.1.2.1 s) else nI (Z.1.2.2 c).2.length) = nI m := by
      by_cases q : Z.2.2.2.1.2.1 s < (Z.1.2.2 c).2.length
      · rw [if_pos (nI_lt q (by omega)), hm, if_pos q]
      · rw [if_neg (nI_nlt (by omega) (by omega)), hm, if_neg q]
    rw [em]
    exact a1
  · by_cases q : j < m
    · rw [if_pos q, a2 j (by omega) q]
    · rw [if_neg q, a3 j (by omega), c2 j hj]
