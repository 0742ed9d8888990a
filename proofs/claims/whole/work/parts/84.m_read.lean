/-! The call read. -/
theorem e_X9_read57 {s n k : Nat} {V : Nat → Int32} {N : Nat → Int64} {M : zz_M} (hs : s < 4) (hn : n ≤ 6) (hok : ms_okV V) (hR : ms_RW M 130 V) (h1 : zz_i M 136 s = nI n) (hN : ∀ j, j < 40 → zz_j M 137 (40 * s + j) = N j) :
    ∃ M' : zz_M, b_X9_read_57 129 (nI s) (nI k) 0 M = ms_end (ms_fold (ms_gP (fun i => ms_shown N n (ms_row (nI k) n i ([], V)).1)) (4 ^ n) 0 (-1)) M' ∧ (∀ j, j < 440 → zz_i M' 130 j = zz_i M 130 j) ∧ mi_ds M M' := by
  have h4 := mr_4 hn
  obtain ⟨M1, hM1, hA1, hS1⟩ := e_X9_keep (M := M) 129 (a2 := 132) (by decide)
  have e1 : f_X9_at 0 0 M1 = some (nI 20, M1) := e_X9_at 0 0 (x := 0) rfl M1
  have e2 : f_X9_at 0 1 (zz_si M1 130 20 (nI k)) = some (nI 21, zz_si M1 130 20 (nI k)) := e_X9_at 0 1 (x := 1) rfl _
  obtain ⟨M3, hM3, hk3, hS3⟩ := e_X9_keeps (M := zz_si (zz_si M1 130 20 (nI k)) 130 21 0) (c := 0) (by omega) 129
  have hM3 : f_X9_keeps 129 0 (zz_si (zz_si M1 130 20 (nI k)) 130 21 0) = some ((), M3) := hM3
  have er : zz_i M3 130 = zz_i (zz_si (zz_si M1 130 20 (nI k)) 130 21 0) 130 := hS3.at (by decide)
  have eS : me_same (fun q => q = 130) M1 (zz_si (zz_si M1 130 20 (nI k)) 130 21 0) := (me_same.s1).tr me_same.s1
  have hK3 : ms_KM M3 130 (20 + 42 * 0) (nI k) [] := by
    refine ⟨?_, ?_, trivial, ms_Lok.nil⟩
    · rw [er, me_ine (by omega), me_hit rfl (by omega)]
    · rw [er, me_hit rfl (by omega)]; rfl
  have hR3 : ms_RW M3 130 V := by
    intro j hj1 hj2
    rw [er, me_ine (by omega), me_ine (by omega), hS1.at (by omega)]
    exact hR j hj1 hj2
  obtain ⟨M4, hM4, hA4, hS4⟩ := e_X9_read110 (kd := nI k) (N := N) (R := zz_i M3 130) (R0 := zz_i M 130) hs hn hok (4 ^ n) zz_fuel 0 M3 (-1) (by show 4 ^ n < 5000; omega) (by omega) (Or.inl rfl) (by rw [er]; exact hk3) rfl hK3 hR3 (by rw [hS3.at (by decide), eS.at (by decide), hS1.at (by decide)]; exact h1) (fun j hj => by rw [hS3.2, eS.2, hS1.2]; exact hN j hj) (fun j hj => by rw [hS3.at (by decide), eS.at (by decide)]; exact hA1 j hj)
  refine ⟨M4, ?_, hA4, ((mi_ds.k hS1).tr (mi_ds.r eS)).tr ((mi_ds.p hS3).tr (mi_ds.r hS4))⟩
  unfold b_X9_read_57
  rw [if_pos (show (0 : Int32) = 0 from rfl), hM1, zz_bd_some, e1, zz_bd_some, if_pos (show zz_in (nI 20) 440 = true from rfl), me_wr, show zz_n (nI 20) = 20 from rfl, e2, zz_bd_some, if_pos (show zz_in (nI 21) 440 = true from rfl), me_wr, show zz_n (nI 21) = 21 from rfl, hM3, zz_bd_some]
  exact hM4
theorem op_read {M : zz_M} (hI : mi_Inv M) (x1 x2 : Int32) : zw_eq mi_Inv (f_X8_read 0 x1 x2) (f_X9_read 129 x1 x2) M := by
  obtain ⟨Z, hO, hC, hD⟩ := hI
  rcases ms_in_nat (x := x1) (l := 0) (h := 3) (a := 0) (b := 3) rfl rfl (by omega) (by omega) with h | ⟨h, s, _, hs, rfl⟩
  · refine mi_find0 (r := -1000000001) 0 (by decide) hO hC hD ?_ (fun M1 _ _ => ?_)
    · unfold f_X8_read
      rw [e_wrong0 h, zz_bd_some, if_neg (show ¬ (-1000000001 : Int32) = 0 by decide), e_fi0, zz_bd_some]
    · unfold f_X9_read b_X9_read_57
      rw [e_X9_isSheet, zz_bd_some, h, if_pos (show (0 : Int32) = 0 from rfl), if_neg (show ¬ (-1000000001 : Int32) = 0 by decide), e_fs0, zz_bd_some]
  have hs4 : s < 4 := by omega
  have hsi : zz_in (nI s) 4 = true := me_in hs4 (by decide)
  have hsn : zz_n (nI s) = s := me_n (by omega)
  obtain ⟨c0, c1, c2⟩ := hC.2.2.2.1 s hs4
  obtain ⟨hz40, hbits⟩ := hO.2.2.2 s hs4
  by_cases hb : Z.2.2.2.1.1 s = 0
  · refine mi_find0 (r := -1000000006) 5 (by decide) hO hC hD ?_ (fun M1 _ hd => ?_)
    · unfold f_X8_read
      rw [e_wrong hs4 c0, if_pos hb, zz_bd_some, if_neg (show ¬ (-1000000006 : Int32) = 0 by decide), e_fi5, zz_bd_some]
    · unfold f_X9_read b_X9_read_57
      rw [e_X9_isSheet, zz_bd_some, h, if_neg (show ¬ (1 : Int32) = 0 by decide), if_pos hsi, hsn, (hd.2.2.2.1 s hs4).1, if_pos hb, if_neg (show ¬ (-1000000006 : Int32) = 0 by decide), e_fs5, zz_bd_some]
  rcases ms_in_nat (x := x2) (l := 0) (h := 5) (a := 0) (b := 5) rfl rfl (by omega) (by omega) with h2 | ⟨h2, k, _, hk, rfl⟩
  · refine mi_find0 (r := -1000000001) 0 (by decide) hO hC hD ?_ (fun M1 _ hd => ?_)
    · unfold f_X8_read
      rw [e_wrong hs4 c0, if_neg hb, zz_bd_some, if_pos (show (0 : Int32) = 0 from rfl), e_X8_isKind, zz_bd_some, h2, if_pos (show (0 : Int32) = 0 from rfl), e_fi0, zz_bd_some]
    · unfold f_X9_read b_X9_read_57
      rw [e_X9_isSheet, zz_bd_some, h, if_neg (show ¬ (1 : Int32) = 0 by decide), if_pos hsi, hsn, (hd.2.2.2.1 s hs4).1, if_neg hb, e_X9_isKind, zz_bd_some, h2, if_pos (show (0 : Int32) = 0 from rfl), if_neg (show ¬ (-1000000001 : Int32) = 0 by decide), e_fs0, zz_bd_some]
  by_cases h6 : Z.2.2.2.1.2.1 s ≤ 6
  · have h6c : nI (Z.2.2.2.1.2.1 s) ≤ 6 := nI_le (a := Z.2.2.2.1.2.1 s) (b := 6) h6 (by decide)
    obtain ⟨M1, hM1, hS1⟩ := e_X2_made (kd := nI k) (N := Z.2.2.2.1.2.2 s) (V := Z.1.1) (r := 1 + 1) h6 hs4 (by omega) c1 c2 hC.1.1 hO.1.1
    have hS : me_same mi_cs M M1 := hS1.wk (fun q hq => by unfold mi_cs; omega)
    have hSC := mi_scr hC (fun q h1 h2 => hS1.at (M' := M1) (q := q) (by omega))
    have hh : ∀ Mx : zz_M, mi_D Mx Z → ∃ M' : zz_M, f_X9_read 129 (nI s) (nI k) Mx = ms_end (ms_fold (ms_gP (fun i => ms_shown (Z.2.2.2.1.2.2 s) (Z.2.2.2.1.2.1 s) (ms_row (nI k) (Z.2.2.2.1.2.1 s) i ([], Z.1.1)).1)) (4 ^ Z.2.2.2.1.2.1 s) 0 (-1)) M' ∧ mi_ds Mx M' ∧ ms_SM M' 130 Z.1 := by
      intro Mx hd
      obtain ⟨d0, d1, d2⟩ := hd.2.2.2.1 s hs4
      obtain ⟨M2, b1, b2, b3⟩ := e_X9_read57 (k := k) (N := Z.2.2.2.1.2.2 s) (V := Z.1.1) hs4 h6 hO.1.1 hd.1.2.1 d1 d2
      refine ⟨M2, ?_, b3, hd.1.back hO.1.2.2.1 b2⟩
      unfold f_X9_read
      rw [e_X9_isSheet, zz_bd_some, h, if_neg (show ¬ (1 : Int32) = 0 by decide), if_pos hsi, hsn, d0, if_neg hb, e_X9_isKind, zz_bd_some, h2, if_neg (show ¬ (1 : Int32) = 0 by decide), if_pos hsi, d1, if_pos h6c]
      exact b1
    generalize ms_fold (ms_gP (fun i => ms_shown (Z.2.2.2.1.2.2 s) (Z.2.2.2.1.2.1 s) (ms_row (nI k) (Z.2.2.2.1.2.1 s) i ([], Z.1.1)).1)) (4 ^ Z.2.2.2.1.2.1 s) 0 (-1) = P at hM1 hh
    unfold ms_end at hh
    by_cases p : 0 ≤ P
    · have hg : f_X8_read 0 (nI s) (nI k) M = some (P, M1) := by
        unfold f_X8_read
        rw [e_wrong hs4 c0, if_neg hb, zz_bd_some, if_pos (show (0 : Int32) = 0 from rfl), e_X8_isKind, zz_bd_some, h2, if_neg (show ¬ (1 : Int32) = 0 by decide), if_pos hsi, hsn, c1, if_pos h6c, if_pos hsi, hM1, zz_bd_some, if_pos p]
      obtain ⟨M5, b1, b2, b3⟩ := hh _ (mi_clD hO hD hS)
      rw [if_pos p] at b1
      exact mi_shop hO hC hD hg hS hSC b1 b2 b3 hO.1
    · have hg : f_X8_read 0 (nI s) (nI k) M = some (-1000000004, ms_fC 3 M1) := by
        unfold f_X8_read
        rw [e_wrong hs4 c0, if_neg hb, zz_bd_some, if_pos (show (0 : Int32) = 0 from rfl), e_X8_isKind, zz_bd_some, h2, if_neg (show ¬ (1 : Int32) = 0 by decide), if_pos hsi, hsn, c1, if_pos h6c, if_pos hsi, hM1, zz_bd_some, if_neg p, e_fi3, zz_bd_some]
      have hD1 : mi_D (ms_fC 3 M1) Z := (mi_clD hO hD hS).cl hO (fun q hq => zz_i_si_ne (by omega)) (fun _ _ => rfl)
      obtain ⟨M5, b1, b2, b3⟩ := hh _ hD1
      rw [if_neg p] at b1
      exact mi_find 3 (by decide) hO hC hD hg hS hSC b1 b2 b3
  · have h6c : ¬ nI (Z.2.2.2.1.2.1 s) ≤ 6 := me_ge' (y := 6) (Z.2.2.2.1.2.1 s) 6 rfl (by omega) (by omega)
    refine mi_find0 (r := -1000000007) 6 (by decide) hO hC hD ?_ (fun M1 _ hd => ?_)
    · unfold f_X8_read
      rw [e_wrong hs4 c0, if_neg hb, zz_bd_some, if_pos (show (0 : Int32) = 0 from rfl), e_X8_isKind, zz_bd_some, h2, if_neg (show ¬ (1 : Int32) = 0 by decide), if_pos hsi, hsn, c1, if_neg h6c, e_fi6, zz_bd_some]
    · unfold f_X9_read b_X9_read_57
      rw [e_X9_isSheet, zz_bd_some, h, if_neg (show ¬ (1 : Int32) = 0 by decide), if_pos hsi, hsn, (hd.2.2.2.1 s hs4).1, if_neg hb, e_X9_isKind, zz_bd_some, h2, if_neg (show ¬ (1 : Int32) = 0 by decide), if_pos hsi, (hd.2.2.2.1 s hs4).2.1, if_neg h6c, if_neg (show ¬ (-1000000007 : Int32) = 0 by decide), e_fs6, zz_bd_some]
