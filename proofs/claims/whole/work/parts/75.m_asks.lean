/-! Rows of dips asked. -/
theorem mi_ds.few {M M' : zz_M} (h : me_same (fun q => q = 130 ∨ q = 129 ∨ q = 133) M M') (h9 : ∀ k, k ≠ 4 → zz_i M' 129 k = zz_i M 129 k) : mi_ds M M' :=
  ⟨fun q a b c d e => h.at (by omega), h9 6 (by decide), h9 19 (by decide), fun q _ => by rw [h.2]⟩
theorem ms_SM.row {M M' : zz_M} {S : ms_S} (h : ms_SM M 130 S) (hn : S.2.1 ≤ 10) (e : zz_i M' 130 = zz_i M 130) : ms_SM M' 130 S := h.fr hn (fun j _ => by rw [e])
theorem op_burns {M : zz_M} (hI : mi_Inv M) (x1 x2 x3 : Int32) : zw_eq mi_Inv (f_X8_burns 0 x1 x2 x3) (f_X9_burns 129 x1 x2 x3) M := by
  obtain ⟨Z, hO, hC, hD⟩ := hI
  rcases ms_in_has (x := x1) (n := Z.1.2.1) hO.1.2.2.1 with h | ⟨h, c, hc, rfl⟩
  · refine mi_find0 (r := -1000000001) 0 (by decide) hO hC hD ?_ (fun M1 hs _ => ?_)
    · simp only [f_X8_burns, e_X1_has, hC.1.2.1, h, zz_bd_some, me_wr, me_t0, me_t1, if_true, if_false, e_fi0]
    · simp only [f_X9_burns, e_X9_isCandle, hs.1, h, zz_bd_some, me_wr, me_t0, me_t1, if_true, if_false, e_fs0]
  rcases ms_in_nat (x := x2) (l := 0) (h := 3) (a := 0) (b := 3) rfl rfl (by omega) (by omega) with h2 | ⟨h2, v, _, hv, rfl⟩
  · refine mi_find0 (r := -1000000001) 0 (by decide) hO hC hD ?_ (fun M1 hs _ => ?_)
    · simp only [f_X8_burns, e_X1_has, hC.1.2.1, h, e_X8_isVat, h2, zz_bd_some, me_wr, me_t0, me_t1, if_true, if_false, e_fi0]
    · simp only [f_X9_burns, e_X9_isCandle, hs.1, h, e_X9_isVat, h2, zz_bd_some, me_wr, me_t0, me_t1, if_true, if_false, e_fs0]
  rcases ms_in_nat (x := x3) (l := 0) (h := 40) (a := 0) (b := 40) rfl rfl (by omega) (by omega) with h3 | ⟨h3, n, _, hn, rfl⟩
  · refine mi_find0 (r := -1000000001) 0 (by decide) hO hC hD ?_ (fun M1 hs _ => ?_)
    · simp only [f_X8_burns, e_X1_has, hC.1.2.1, h, e_X8_isVat, h2, e_X8_within, h3, zz_bd_some, me_wr, me_t0, me_t1, if_true, if_false, e_fi0]
    · simp only [f_X9_burns, e_X9_isCandle, hs.1, h, e_X9_isVat, h2, e_X9_in, h3, zz_bd_some, me_wr, me_t0, me_t1, if_true, if_false, e_fs0]
  have hc10 : c < 10 := by have := hO.1.2.2.1; omega
  have hK := hC.1.2.2 c hc10
  have hM := hD.1.2.2 c hc
  have hzi : zz_in (nI c) 10 = true := me_in hc10 (by decide)
  have hzn : zz_n (nI c) = c := me_n (by omega)
  have hv4 : v < 4 := by omega
  have hvi : zz_in (nI v) 4 = true := me_in hv4 (by decide)
  have hvn : zz_n (nI v) = v := me_n (by omega)
  obtain ⟨M1, hM1, hS1⟩ := e_X8_beh (M := M) (kd := (Z.1.2.2 c).1) (N := n) (by omega) hv4 (by omega) (by omega) hK hC.1.1 hO.1.1
  have hS : me_same mi_cs M M1 := hS1.wk (fun q hq => by unfold mi_cs; omega)
  have hD1 := mi_cl hO hD hS
  obtain ⟨M2, hM2, hk2, hS2⟩ := e_X9_keeps (M := M1) hc10 129
  have er : zz_i M2 130 = zz_i M1 130 := hS2.at (by decide)
  obtain ⟨M3, hM3, hS3⟩ := e_X9_beh (M := M2) (N := n) hc10 hv4 (by omega) ((hD1.2.2 c hc).row er) (hD1.2.1.row er) hO.1.1 129
  obtain ⟨M4, hM4, hR4, hS4⟩ := e_X9_putsBack hc10 129 (hk2.fr (hS3.ot (by decide))) (fun j hj => by rw [hS3.at (by omega), er])
  refine mi_shop (M1 := M1) (M2 := M4) (r := ms_mn (Z.1.2.2 c).1 (ms_bh (Z.1.2.2 c).1 (Z.1.1 (4 + 4 * v)) n ((Z.1.2.2 c).2, Z.1.1 (4 + 4 * v + 1), Z.1.1 (4 + 4 * v + 2))).1) hO hC hD ?_ hS (mi_scr hC (fun q h1 h2 => hS1.at (by omega))) ?_ (((mi_ds.p hS2).tr (mi_ds.mr hS3)).tr (mi_ds.r hS4)) (hD1.row hO.1.2.2.1 hR4) hO.1
  · simp only [f_X8_burns, e_X1_has, hC.1.2.1, h, e_X8_isVat, h2, e_X8_within, h3, hzi, hzn, hvi, hvn, zz_bd_some, me_wr, me_t0, me_t1, if_true, if_false, hK.1, ms_v4, hM1]
  · simp only [f_X9_burns, e_X9_isCandle, hD1.1, h, e_X9_isVat, h2, e_X9_in, h3, zz_bd_some, me_wr, me_t0, me_t1, if_true, if_false, hM2, hM3, hM4]
theorem op_fewest {M : zz_M} (hI : mi_Inv M) (x1 x2 : Int32) : zw_eq mi_Inv (f_X8_fewest 0 x1 x2) (f_X9_fewest 129 x1 x2) M := by
  obtain ⟨Z, hO, hC, hD⟩ := hI
  rcases ms_in_has (x := x1) (n := Z.1.2.1) hO.1.2.2.1 with h | ⟨h, c, hc, rfl⟩
  · refine mi_find0 (r := -1000000001) 0 (by decide) hO hC hD ?_ (fun M1 hs _ => ?_)
    · simp only [f_X8_fewest, e_X1_has, hC.1.2.1, h, zz_bd_some, me_wr, me_t0, me_t1, if_true, if_false, e_fi0]
    · simp only [f_X9_fewest, e_X9_isCandle, hs.1, h, zz_bd_some, me_wr, me_t0, me_t1, if_true, if_false, e_fs0]
  rcases ms_in_cases x2 0 9999 with ⟨h2, -⟩ | ⟨h2, -, -⟩
  · refine mi_find0 (r := -1000000001) 0 (by decide) hO hC hD ?_ (fun M1 hs _ => ?_)
    · simp only [f_X8_fewest, e_X1_has, hC.1.2.1, h, e_X8_within, h2, zz_bd_some, me_wr, me_t0, me_t1, if_true, if_false, e_fi0]
    · simp only [f_X9_fewest, e_X9_isCandle, hs.1, h, e_X9_isMinutes, h2, zz_bd_some, me_wr, me_t0, me_t1, if_true, if_false, e_fs0]
  have hc10 : c < 10 := by have := hO.1.2.2.1; omega
  have hK := hC.1.2.2 c hc10
  have hM := hD.1.2.2 c hc
  have hzi : zz_in (nI c) 10 = true := me_in hc10 (by decide)
  have hzn : zz_n (nI c) = c := me_n (by omega)
  have hX : ms_okX ((Z.1.2.2 c).2, Z.1.1) := ⟨hM.2.2.2, hO.1.1⟩
  obtain ⟨M1, hM1, h6, hS1⟩ := e_X8_few (X := ((Z.1.2.2 c).2, Z.1.1)) (a := 1 + 7 + 1 + 2 * c) (w := x2) hX (by omega) hK hC.1.1
  have hS : me_same mi_cs M M1 := hS1.wk (fun q hq => by unfold mi_cs; omega)
  have hSC := mi_scr hC (fun q h1 h2 => hS1.at (M' := M1) (q := q) (by omega))
  have hh : ∀ Mx : zz_M, mi_D Mx Z → ∃ M' : zz_M, f_X9_fewestOf 129 (nI c) x2 Mx = some ((ms_few (ms_F (Z.1.2.2 c).1 ((Z.1.2.2 c).2, Z.1.1) x2) 7 0).1, M') ∧ zz_i M' 129 4 = (ms_few (ms_F (Z.1.2.2 c).1 ((Z.1.2.2 c).2, Z.1.1) x2) 7 0).2 ∧ mi_ds Mx M' ∧ ms_SM M' 130 Z.1 := by
    intro Mx hDx
    obtain ⟨M', a1, a2, a3, a4, a5⟩ := e_X9_few (X := ((Z.1.2.2 c).2, Z.1.1)) (w := x2) hc10 hX (hDx.1.2.2 c hc) hDx.1.2.1
    exact ⟨M', a1, a2, mi_ds.few a4 a5, hDx.1.row hO.1.2.2.1 a3⟩
  generalize ms_few (ms_F (Z.1.2.2 c).1 ((Z.1.2.2 c).2, Z.1.1) x2) 7 0 = P at hM1 h6 hh
  by_cases q : 0 ≤ P.1
  · obtain ⟨M2, b1, b2, b3, b4⟩ := hh _ (mi_clD hO hD hS)
    refine mi_shop (M1 := M1) (M2 := M2) (r := P.1) hO hC hD ?_ hS hSC ?_ b3 b4 hO.1
    · simp only [f_X8_fewest, e_X1_has, hC.1.2.1, h, e_X8_within, h2, hzi, hzn, zz_bd_some, me_wr, me_t0, me_t1, if_true, if_false, hM1, q]
    · simp only [f_X9_fewest, e_X9_isCandle, (mi_cl hO hD hS).1, h, e_X9_isMinutes, h2, zz_bd_some, me_wr, me_t0, me_t1, if_true, if_false, b1, q]
  · have hD1 : mi_D (ms_fC 3 M1) Z := (mi_clD hO hD hS).cl hO (fun q hq => zz_i_si_ne (by omega)) (fun _ _ => rfl)
    obtain ⟨M2, b1, b2, b3, b4⟩ := hh _ hD1
    refine mi_find (M1 := M1) (M2 := M2) (r := -1000000004) 3 (by decide) hO hC hD ?_ hS hSC ?_ b3 b4
    · simp only [f_X8_fewest, e_X1_has, hC.1.2.1, h, e_X8_within, h2, hzi, hzn, zz_bd_some, me_wr, me_t0, me_t1, if_true, if_false, hM1, q, e_fi3]
    · simp only [f_X9_fewest, e_X9_isCandle, hD1.1.1, h, e_X9_isMinutes, h2, zz_bd_some, me_wr, me_t0, me_t1, if_true, if_false, b1, q, e_fs3]
theorem op_ith {M : zz_M} (hI : mi_Inv M) (x1 x2 x3 : Int32) : zw_eq mi_Inv (f_X8_ith 0 x1 x2 x3) (f_X9_ith 129 x1 x2 x3) M := by
  obtain ⟨Z, hO, hC, hD⟩ := hI
  rcases ms_in_has (x := x1) (n := Z.1.2.1) hO.1.2.2.1 with h | ⟨h, c, hc, rfl⟩
  · refine mi_find0 (r := -1000000001) 0 (by decide) hO hC hD ?_ (fun M1 hs _ => ?_)
    · simp only [f_X8_ith, e_X1_has, hC.1.2.1, h, zz_bd_some, me_wr, me_t0, me_t1, if_true, if_false, e_fi0]
    · simp only [f_X9_ith, e_X9_isCandle, hs.1, h, zz_bd_some, me_wr, me_t0, me_t1, if_true, if_false, e_fs0]
  rcases ms_in_cases x2 0 9999 with ⟨h2, -⟩ | ⟨h2, -, -⟩
  · refine mi_find0 (r := -1000000001) 0 (by decide) hO hC hD ?_ (fun M1 hs _ => ?_)
    · simp only [f_X8_ith, e_X1_has, hC.1.2.1, h, e_X8_within, h2, zz_bd_some, me_wr, me_t0, me_t1, if_true, if_false, e_fi0]
    · simp only [f_X9_ith, e_X9_isCandle, hs.1, h, e_X9_isMinutes, h2, zz_bd_some, me_wr, me_t0, me_t1, if_true, if_false, e_fs0]
  rcases ms_in_cases x3 0 5 with ⟨h3, -⟩ | ⟨h3, g3, -⟩
  · refine mi_find0 (r := -1000000001) 0 (by decide) hO hC hD ?_ (fun M1 hs _ => ?_)
    · simp only [f_X8_ith, e_X1_has, hC.1.2.1, h, e_X8_within, h2, h3, zz_bd_some, me_wr, me_t0, me_t1, if_true, if_false, e_fi0]
    · simp only [f_X9_ith, e_X9_isCandle, hs.1, h, e_X9_isMinutes, h2, e_X9_in, h3, zz_bd_some, me_wr, me_t0, me_t1, if_true, if_false, e_fs0]
  have hc10 : c < 10 := by have := hO.1.2.2.1; omega
  have hK := hC.1.2.2 c hc10
  have hM := hD.1.2.2 c hc
  have hzi : zz_in (nI c) 10 = true := me_in hc10 (by decide)
  have hzn : zz_n (nI c) = c := me_n (by omega)
  have hX : ms_okX ((Z.1.2.2 c).2, Z.1.1) := ⟨hM.2.2.2, hO.1.1⟩
  obtain ⟨M1, hM1, h6, hS1⟩ := e_X8_few (X := ((Z.1.2.2 c).2, Z.1.1)) (a := 1 + 7 + 1 + 2 * c) (w := x2) hX (by omega) hK hC.1.1
  have hS : me_same mi_cs M M1 := hS1.wk (fun q hq => by unfold mi_cs; omega)
  have hSC := mi_scr hC (fun q h1 h2 => hS1.at (M' := M1) (q := q) (by omega))
  have hh : ∀ Mx : zz_M, mi_D Mx Z → ∃ M' : zz_M, f_X9_fewestOf 129 (nI c) x2 Mx = some ((ms_few (ms_F (Z.1.2.2 c).1 ((Z.1.2.2 c).2, Z.1.1) x2) 7 0).1, M') ∧ zz_i M' 129 4 = (ms_few (ms_F (Z.1.2.2 c).1 ((Z.1.2.2 c).2, Z.1.1) x2) 7 0).2 ∧ mi_ds Mx M' ∧ ms_SM M' 130 Z.1 := by
    intro Mx hDx
    obtain ⟨M', a1, a2, a3, a4, a5⟩ := e_X9_few (X := ((Z.1.2.2 c).2, Z.1.1)) (w := x2) hc10 hX (hDx.1.2.2 c hc) hDx.1.2.1
    exact ⟨M', a1, a2, mi_ds.few a4 a5, hDx.1.row hO.1.2.2.1 a3⟩
  generalize ms_few (ms_F (Z.1.2.2 c).1 ((Z.1.2.2 c).2, Z.1.1) x2) 7 0 = P at hM1 h6 hh
  by_cases q : x3 < P.1
  · have q0 : 0 ≤ P.1 := by grind
    obtain ⟨M2, b1, b2, b3, b4⟩ := hh _ (mi_clD hO hD hS)
    refine mi_shop (M1 := M1) (M2 := M2) (r := (P.2 >>> (((2 : Int32) * ((P.1 - (1 : Int32)) - x3)) &&& (31 : Int32))) &&& (3 : Int32)) hO hC hD ?_ hS hSC ?_ b3 b4 hO.1
    · simp only [f_X8_ith, e_X1_has, hC.1.2.1, h, e_X8_within, h2, h3, hzi, hzn, zz_bd_some, me_wr, me_t0, me_t1, if_true, if_false, hM1, q, h6 q0]
    · simp only [f_X9_ith, e_X9_isCandle, (mi_cl hO hD hS).1, h, e_X9_isMinutes, h2, e_X9_in, h3, zz_bd_some, me_wr, me_t0, me_t1, if_true, if_false, b1, q, b2]
  · have hD1 : mi_D (ms_fC 3 M1) Z := (mi_clD hO hD hS).cl hO (fun q hq => zz_i_si_ne (by omega)) (fun _ _ => rfl)
    obtain ⟨M2, b1, b2, b3, b4⟩ := hh _ hD1
    refine mi_find (M1 := M1) (M2 := M2) (r := -1000000004) 3 (by decide) hO hC hD ?_ hS hSC ?_ b3 b4
    · simp only [f_X8_ith, e_X1_has, hC.1.2.1, h, e_X8_within, h2, h3, hzi, hzn, zz_bd_some, me_wr, me_t0, me_t1, if_true, if_false, hM1, q, e_fi3]
    · simp only [f_X9_ith, e_X9_isCandle, hD1.1.1, h, e_X9_isMinutes, h2, e_X9_in, h3, zz_bd_some, me_wr, me_t0, me_t1, if_true, if_false, b1, q, e_fs3]
theorem op_ways {M : zz_M} (hI : mi_Inv M) (x1 x2 x3 : Int32) : zw_eq mi_Inv (f_X8_ways 0 x1 x2 x3) (f_X9_ways 129 x1 x2 x3) M := by
  obtain ⟨Z, hO, hC, hD⟩ := hI
  rcases ms_in_has (x := x1) (n := Z.1.2.1) hO.1.2.2.1 with h | ⟨h, c, hc, rfl⟩
  · refine mi_find0 (r := -1000000001) 0 (by decide) hO hC hD ?_ (fun M1 hs _ => ?_)
    · simp only [f_X8_ways, e_X1_has, hC.1.2.1, h, zz_bd_some, me_wr, me_t0, me_t1, if_true, if_false, e_fi0]
    · simp only [f_X9_ways, e_X9_isCandle, hs.1, h, zz_bd_some, me_wr, me_t0, me_t1, if_true, if_false, e_fs0]
  rcases ms_in_cases x2 0 9999 with ⟨h2, -⟩ | ⟨h2, -, -⟩
  · refine mi_find0 (r := -1000000001) 0 (by decide) hO hC hD ?_ (fun M1 hs _ => ?_)
    · simp only [f_X8_ways, e_X1_has, hC.1.2.1, h, e_X8_within, h2, zz_bd_some, me_wr, me_t0, me_t1, if_true, if_false, e_fi0]
    · simp only [f_X9_ways, e_X9_isCandle, hs.1, h, e_X9_isMinutes, h2, zz_bd_some, me_wr, me_t0, me_t1, if_true, if_false, e_fs0]
  rcases ms_in_nat (x := x3) (l := 0) (h := 6) (a := 0) (b := 6) rfl rfl (by omega) (by omega) with h3 | ⟨h3, n, _, hn, rfl⟩
  · refine mi_find0 (r := -1000000001) 0 (by decide) hO hC hD ?_ (fun M1 hs _ => ?_)
    · simp only [f_X8_ways, e_X1_has, hC.1.2.1, h, e_X8_within, h2, h3, zz_bd_some, me_wr, me_t0, me_t1, if_true, if_false, e_fi0]
    · simp only [f_X9_ways, e_X9_isCandle, hs.1, h, e_X9_isMinutes, h2, e_X9_in, h3, zz_bd_some, me_wr, me_t0, me_t1, if_true, if_false, e_fs0]
  have hc10 : c < 10 := by have := hO.1.2.2.1; omega
  have hK := hC.1.2.2 c hc10
  have hM := hD.1.2.2 c hc
  have hzi : zz_in (nI c) 10 = true := me_in hc10 (by decide)
  have hzn : zz_n (nI c) = c := me_n (by omega)
  have hX : ms_okX ((Z.1.2.2 c).2, Z.1.1) := ⟨hM.2.2.2, hO.1.1⟩
  obtain ⟨M1, hM1, h4, h5, _, hS1⟩ := e_X2_walks (X := ((Z.1.2.2 c).2, Z.1.1)) (a := 1 + 7 + 1 + 2 * c) (r := 1 + 1) (N := n) (w := x2) (by omega) hK hC.1.1 hX (by omega) (by omega)
  have hS : me_same mi_cs M M1 := hS1.wk (fun q hq => by unfold mi_cs; omega)
  have hD1 := mi_cl hO hD hS
  obtain ⟨M2, hM2, hk2, hS2⟩ := e_X9_keeps (M := M1) hc10 129
  have er : zz_i M2 130 = zz_i M1 130 := hS2.at (by decide)
  have h4n := mr_4 (n := n) (by omega)
  obtain ⟨M3, hM3, hR3, hS3⟩ := e_X9_ways43 (w := x2) (kd := (Z.1.2.2 c).1) (N := n) (X := ((Z.1.2.2 c).2, Z.1.1)) (R := zz_i M1 130) hc10 (by omega) hX 129 (4 ^ n) zz_fuel 0 M2 0 (show 4 ^ n < 5000 by omega) (by omega) hk2 er ((hD1.2.2 c hc).row er) (hD1.2.1.row er)

  refine mi_shop (M1 := M1) (M2 := M3) (r := ms_fold (ms_gC (fun i => ms_mn (Z.1.2.2 c).1 (ms_row (Z.1.2.2 c).1 n i ((Z.1.2.2 c).2, Z.1.1)).1) x2) (4 ^ n) 0 0) hO hC hD ?_ hS (mi_scr hC (fun q h1 h2 => hS1.at (by omega))) ?_ ((mi_ds.p hS2).tr (mi_ds.r hS3)) (hD1.row hO.1.2.2.1 hR3) hO.1
  · simp only [f_X8_ways, e_X1_has, hC.1.2.1, h, e_X8_within, h2, h3, hzi, hzn, zz_bd_some, me_wr, me_t0, me_t1, if_true, if_false, hM1, h4]
  · simp only [f_X9_ways, e_X9_isCandle, hD1.1, h, e_X9_isMinutes, h2, e_X9_in, h3, zz_bd_some, me_wr, me_t0, me_t1, if_true, if_false, hM2]
    exact hM3
theorem op_most {M : zz_M} (hI : mi_Inv M) (x1 x2 : Int32) : zw_eq mi_Inv (f_X8_most 0 x1 x2) (f_X9_most 129 x1 x2) M := by
  obtain ⟨Z, hO, hC, hD⟩ := hI
  rcases ms_in_has (x := x1) (n := Z.1.2.1) hO.1.2.2.1 with h | ⟨h, c, hc, rfl⟩
  · refine mi_find0 (r := -1000000001) 0 (by decide) hO hC hD ?_ (fun M1 hs _ => ?_)
    · simp only [f_X8_most, e_X1_has, hC.1.2.1, h, zz_bd_some, me_wr, me_t0, me_t1, if_true, if_false, e_fi0]
    · simp only [f_X9_most, e_X9_isCandle, hs.1, h, zz_bd_some, me_wr, me_t0, me_t1, if_true, if_false, e_fs0]
  rcases ms_in_nat (x := x2) (l := 0) (h := 6) (a := 0) (b := 6) rfl rfl (by omega) (by omega) with h3 | ⟨h3, n, _, hn, rfl⟩
  · refine mi_find0 (r := -1000000001) 0 (by decide) hO hC hD ?_ (fun M1 hs _ => ?_)
    · simp only [f_X8_most, e_X1_has, hC.1.2.1, h, e_X8_within, h3, zz_bd_some, me_wr, me_t0, me_t1, if_true, if_false, e_fi0]
    · simp only [f_X9_most, e_X9_isCandle, hs.1, h, e_X9_in, h3, zz_bd_some, me_wr, me_t0, me_t1, if_true, if_false, e_fs0]
  have hc10 : c < 10 := by have := hO.1.2.2.1; omega
  have hK := hC.1.2.2 c hc10
  have hM := hD.1.2.2 c hc
  have hzi : zz_in (nI c) 10 = true := me_in hc10 (by decide)
  have hzn : zz_n (nI c) = c := me_n (by omega)
  have hX : ms_okX ((Z.1.2.2 c).2, Z.1.1) := ⟨hM.2.2.2, hO.1.1⟩
  obtain ⟨M1, hM1, h4, h5, _, hS1⟩ := e_X2_walks (X := ((Z.1.2.2 c).2, Z.1.1)) (a := 1 + 7 + 1 + 2 * c) (r := 1 + 1) (N := n) (w := 0) (by omega) hK hC.1.1 hX (by omega) (by omega)
  have hS : me_same mi_cs M M1 := hS1.wk (fun q hq => by unfold mi_cs; omega)
  have hD1 := mi_cl hO hD hS
  obtain ⟨M2, hM2, hk2, hS2⟩ := e_X9_keeps (M := M1) hc10 129
  have er : zz_i M2 130 = zz_i M1 130 := hS2.at (by decide)
  have h4n := mr_4 (n := n) (by omega)
  obtain ⟨M3, hM3, hR3, hS3⟩ := e_X9_most35 (kd := (Z.1.2.2 c).1) (N := n) (X := ((Z.1.2.2 c).2, Z.1.1)) (R := zz_i M1 130) hc10 (by omega) hX 129 (4 ^ n) zz_fuel 0 M2 0 (show 4 ^ n < 5000 by omega) (by omega) hk2 er ((hD1.2.2 c hc).row er) (hD1.2.1.row er)

  refine mi_shop (M1 := M1) (M2 := M3) (r := ms_fold (ms_gL (fun i => ms_mn (Z.1.2.2 c).1 (ms_row (Z.1.2.2 c).1 n i ((Z.1.2.2 c).2, Z.1.1)).1)) (4 ^ n) 0 0) hO hC hD ?_ hS (mi_scr hC (fun q h1 h2 => hS1.at (by omega))) ?_ ((mi_ds.p hS2).tr (mi_ds.r hS3)) (hD1.row hO.1.2.2.1 hR3) hO.1
  · simp only [f_X8_most, e_X1_has, hC.1.2.1, h, e_X8_within, h3, hzi, hzn, zz_bd_some, me_wr, me_t0, me_t1, if_true, if_false, hM1, h5]
  · simp only [f_X9_most, e_X9_isCandle, hD1.1, h, e_X9_in, h3, zz_bd_some, me_wr, me_t0, me_t1, if_true, if_false, hM2]
    exact hM3
/-- the first that is longest -/
def ms_gB (f : Nat → Int32) (i : Nat) (x : Int32 × Int32) : Int32 × Int32 := if f i ≤ x.2 then x else (nI i, f i)
def ms_fb (kd : Int32) (L : List Int32) (V : Nat → Int32) (n v : Nat) : Int32 := ms_mn kd (ms_bh kd (V (4 + 4 * v)) n (L, V (4 + 4 * v + 1), V (4 + 4 * v + 2))).1
theorem e_X8_best50 {a : Nat} {kd : Int32} {L : List Int32} {V : Nat → Int32} (ha : a + 1 < 63) (hok : ms_okV V) : ∀ (d n v : Nat) (M : zz_M) (x : Int32 × Int32), d < n → v + d = 4 → ms_KC M a kd L → ms_RV M (1 + 1) V →
    ∃ M' : zz_M, b_X8_best_50 n 0 a x.1 x.2 (nI v) M = some ((ms_fold (ms_gB (ms_fb kd L V 1)) d v x).1, M') ∧ me_same (fun q => 63 ≤ q ∧ q < 66) M M'
  | 0, n + 1, v, M, x, _, hv, hK, hR => by
    have : v = 4 := by omega
    subst this
    unfold b_X8_best_50
    rw [if_pos (by decide)]
    exact ⟨M, rfl, me_same.rf⟩
  | d + 1, n + 1, v, M, x, hd, hv, hK, hR => by
    obtain ⟨M1, hM1, hS1⟩ := e_X8_beh (M := M) (kd := kd) (N := 1) (v := v) (by omega) (by omega) ha (by omega) hK hR hok
    have hM1 : f_X8_minutesBehind 0 a kd (1 + 1 + 2 + v) 1 M = some (ms_fb kd L V 1 v, M1) := hM1
    unfold b_X8_best_50 b_X8_best_95
    rw [if_neg (me_ge (y := 4) v 4 rfl (by omega) (by decide)), if_pos (me_in (by omega) (by decide)), me_n (by omega), hK.1, ms_v4, hM1, zz_bd_some, ms_fold, ms_gB]
    have hK1 := hK.fr (hS1.at (by omega)) (hS1.at (by omega))
    have hR1 := hR.fr (fun q _ _ => hS1.at (M' := M1) (q := q) (by omega))
    by_cases q : ms_fb kd L V 1 v ≤ x.2
    · rw [if_pos q, if_pos q, me_wr, nI_1]
      obtain ⟨M2, hM2, hS2⟩ := e_X8_best50 ha hok d n (v + 1) M1 x (by omega) (by omega) hK1 hR1
      exact ⟨M2, hM2, hS1.tr hS2⟩
    · rw [if_neg q, if_neg q, me_wr, nI_1]
      obtain ⟨M2, hM2, hS2⟩ := e_X8_best50 ha hok d n (v + 1) M1 (nI v, ms_fb kd L V 1 v) (by omega) (by omega) hK1 hR1
      exact ⟨M2, hM2, hS1.tr hS2⟩
theorem e_X9_best44 {c : Nat} {kd : Int32} {L : List Int32} {V : Nat → Int32} {R : Nat → Int32} (hc : c < 10) (hok : ms_okV V) : ∀ (d n v : Nat) (M : zz_M) (x : Int32 × Int32), d < n → v + d = 4 → mr_kept c R M → zz_i M 130 = R → ms_KM M 130 (20 + 42 * c) kd L → ms_RW M 130 V →
    ∃ M' : zz_M, b_X9_best_44 n 129 (nI c) x.1 x.2 (nI v) M = some ((ms_fold (ms_gB (ms_fb kd L V 1)) d v x).1, M') ∧ zz_i M' 130 = R ∧ me_same (fun q => q = 130) M M'
  | 0, n + 1, v, M, x, _, hv, hk, hRR, hK, hR => by
    have : v = 4 := by omega
    subst this
    unfold b_X9_best_44
    rw [if_pos (by decide)]
    exact ⟨M, rfl, hRR, me_same.rf⟩
  | d + 1, n + 1, v, M, x, hd, hv, hk, hRR, hK, hR => by
    obtain ⟨M1, hM1, hS1⟩ := e_X9_beh (M := M) (N := 1) (v := v) hc (by omega) (by omega) hK hR hok 129
    have hM1 : f_X9_burnsBehind 129 (nI c) (nI v) 1 M = some (ms_fb kd L V 1 v, M1) := hM1
    obtain ⟨M2, hM2, hR2, hS2⟩ := e_X9_putsBack hc 129 (hk.fr (hS1.ot (by decide))) (fun j hj => by rw [hS1.at (by omega), hRR])
    have er : zz_i M2 130 = zz_i M 130 := by rw [hR2, hRR]
    have hk2 := (hk.fr (hS1.ot (by decide))).fr (hS2.at (by decide))
    unfold b_X9_best_44 b_X9_best_72 b_X9_best_85
    rw [if_neg (me_ge (y := 4) v 4 rfl (by omega) (by decide)), hM1, zz_bd_some, ms_fold, ms_gB]
    by_cases q : ms_fb kd L V 1 v ≤ x.2
    · rw [if_pos q, if_pos q, if_pos q, hM2, zz_bd_some, me_wr, nI_1]
      obtain ⟨M3, hM3, hR3, hS3⟩ := e_X9_best44 hc hok d n (v + 1) M2 x (by omega) (by omega) hk2 hR2 (hK.row er) (hR.row er)
      exact ⟨M3, hM3, hR3, (hS1.1.tr hS2).tr hS3⟩
    · rw [if_neg q, if_neg q, if_neg q, hM2, zz_bd_some, me_wr, nI_1]
      obtain ⟨M3, hM3, hR3, hS3⟩ := e_X9_best44 hc hok d n (v + 1) M2 (nI v, ms_fb kd L V 1 v) (by omega) (by omega) hk2 hR2 (hK.row er) (hR.row er)
      exact ⟨M3, hM3, hR3, (hS1.1.tr hS2).tr hS3⟩
theorem op_best {M : zz_M} (hI : mi_Inv M) (x1 : Int32) : zw_eq mi_Inv (f_X8_best 0 x1) (f_X9_best 129 x1) M := by
  obtain ⟨Z, hO, hC, hD⟩ := hI
  rcases ms_in_has (x := x1) (n := Z.1.2.1) hO.1.2.2.1 with h | ⟨h, c, hc, rfl⟩
  · refine mi_find0 (r := -1000000001) 0 (by decide) hO hC hD ?_ (fun M1 hs _ => ?_)
    · simp only [f_X8_best, e_X1_has, hC.1.2.1, h, zz_bd_some, me_wr, me_t0, me_t1, if_true, if_false, e_fi0]
    · simp only [f_X9_best, e_X9_isCandle, hs.1, h, zz_bd_some, me_wr, me_t0, me_t1, if_true, if_false, e_fs0]
  have hc10 : c < 10 := by have := hO.1.2.2.1; omega
  have hK := hC.1.2.2 c hc10
  have hM := hD.1.2.2 c hc
  have hzi : zz_in (nI c) 10 = true := me_in hc10 (by decide)
  have hzn : zz_n (nI c) = c := me_n (by omega)
  have hl := hM.2.2.2.1
  by_cases h40 : (Z.1.2.2 c).2.length = 40
  · refine mi_find0 (r := -1000000005) 4 (by decide) hO hC hD ?_ (fun M1 hs _ => ?_)
    · simp only [f_X8_best, e_X1_has, hC.1.2.1, h, hzi, hzn, zz_bd_some, me_wr, me_t0, me_t1, if_true, if_false, e_X0_isThick hK.2.1 hl, h40, e_fi4]
    · simp only [f_X9_best, e_X9_isCandle, hs.1, h, zz_bd_some, me_wr, me_t0, me_t1, if_true, if_false, e_X9_many hc10, (hs.2.2 c hc).2.1, h40, show (nI 40 = (40 : Int32)) = True from eq_true rfl, e_fs4]
  · have e40 : (nI (Z.1.2.2 c).2.length = (40 : Int32)) = False := eq_false (by rw [show (40 : Int32) = nI 40 from rfl, nI_eq (by omega) (by omega)]; exact h40)
    obtain ⟨M1, hM1, hS1⟩ := e_X8_best50 (by omega) hO.1.1 4 zz_fuel 0 M (0, -1) (by decide) (by omega) hK hC.1.1
    have hS : me_same mi_cs M M1 := hS1.wk (fun q hq => by unfold mi_cs; omega)
    have hD1 := mi_cl hO hD hS
    obtain ⟨M2, hM2, hk2, hS2⟩ := e_X9_keeps (M := M1) hc10 129
    have er : zz_i M2 130 = zz_i M1 130 := hS2.at (by decide)
    obtain ⟨M3, hM3, hR3, hS3⟩ := e_X9_best44 hc10 hO.1.1 4 zz_fuel 0 M2 (0, -1) (by decide) (by omega) hk2 er ((hD1.2.2 c hc).row er) (hD1.2.1.row er)
    refine mi_shop (M1 := M1) (M2 := M3) (r := (ms_fold (ms_gB (ms_fb (Z.1.2.2 c).1 (Z.1.2.2 c).2 Z.1.1 1)) 4 0 (0, -1)).1) hO hC hD ?_ hS (mi_scr hC (fun q h1 h2 => hS1.at (by omega))) ?_ ((mi_ds.p hS2).tr (mi_ds.r hS3)) (hD1.row hO.1.2.2.1 hR3) hO.1
    · simp only [f_X8_best, e_X1_has, hC.1.2.1, h, hzi, hzn, zz_bd_some, me_wr, me_t0, me_t1, if_true, if_false, e_X0_isThick hK.2.1 hl, h40]
      exact hM1
    · simp only [f_X9_best, e_X9_isCandle, hD1.1, h, zz_bd_some, me_wr, me_t0, me_t1, if_true, if_false, e_X9_many hc10, (hD1.2.2 c hc).2.1, e40, hM2]
      exact hM3
theorem e_X8_kind44 {c v N : Nat} {kd0 : Int32} {L : List Int32} {V : Nat → Int32} (hc : c < 10) (hv : v < 4) (hN : N ≤ 40) (hok : ms_okV V) : ∀ (d n k : Nat) (M : zz_M) (x : Int32 × Int32), d < n → k + d = 6 → ms_KC M (1 + 7 + 1 + 2 * c) kd0 L → ms_RV M (1 + 1) V →
    ∃ M' : zz_M, b_X8_kind_44 n 0 (nI c) (nI v) (nI N) x.1 x.2 (nI k) M = some ((ms_fold (ms_gB (fun k => ms_fb (nI k) L V N v)) d k x).1, M') ∧ me_same (fun q => 63 ≤ q ∧ q < 66) M M'
  | 0, n + 1, k, M, x, _, hk, hK, hR => by
    have : k = 6 := by omega
    subst this
    unfold b_X8_kind_44
    rw [if_pos (by decide)]
    exact ⟨M, rfl, me_same.rf⟩
  | d + 1, n + 1, k, M, x, hd, hk, hK, hR => by
    obtain ⟨M1, hM1, hS1⟩ := e_X8_beh (M := M) (kd := nI k) (N := N) (v := v) hN hv (by omega) (by omega) hK hR hok
    have hM1 : f_X8_minutesBehind 0 (1 + 7 + 1 + 2 * c) (nI k) (1 + 1 + 2 + v) (nI N) M = some (ms_fb (nI k) L V N v, M1) := hM1
    unfold b_X8_kind_44 b_X8_kind_96
    rw [if_neg (me_ge (y := 6) k 6 rfl (by omega) (by decide)), if_pos (me_in (show c < 10 by omega) (by decide)), if_pos (me_in (show v < 4 by omega) (by decide)), me_n (show c < 2 ^ 31 by omega), me_n (show v < 2 ^ 31 by omega), ms_v4, hM1, zz_bd_some, ms_fold, ms_gB]
    have hK1 := hK.fr (hS1.at (by omega)) (hS1.at (by omega))
    have hR1 := hR.fr (fun q _ _ => hS1.at (M' := M1) (q := q) (by omega))
    by_cases q : ms_fb (nI k) L V N v ≤ x.2
    · rw [if_pos q, if_pos q, me_wr, nI_1]
      obtain ⟨M2, hM2, hS2⟩ := e_X8_kind44 hc hv hN hok d n (k + 1) M1 x (by omega) (by omega) hK1 hR1
      exact ⟨M2, hM2, hS1.tr hS2⟩
    · rw [if_neg q, if_neg q, me_wr, nI_1]
      obtain ⟨M2, hM2, hS2⟩ := e_X8_kind44 hc hv hN hok d n (k + 1) M1 (nI k, ms_fb (nI k) L V N v) (by omega) (by omega) hK1 hR1
      exact ⟨M2, hM2, hS1.tr hS2⟩
theorem ms_KM.kd {M : zz_M} {o : Nat} {kd : Int32} {L : List Int32} (k : Int32) (h : ms_KM M 130 o kd L) : ms_KM (zz_si M 130 o k) 130 o k L := by
  obtain ⟨k0, k1, kL, kok⟩ := h
  exact ⟨me_hit rfl rfl, by rw [me_ine (by omega)]; exact k1, kL.congr (fun j hj => by rw [me_ine (by omega)]), kok⟩
theorem e_X9_kind46 {c v N : Nat} {kd0 : Int32} {L : List Int32} {V : Nat → Int32} {R : Nat → Int32} (hc : c < 10) (hv : v < 4) (hN : N ≤ 40) (hok : ms_okV V) : ∀ (d n k : Nat) (M : zz_M) (x : Int32 × Int32), d < n → k + d = 6 → mr_kept c R M → zz_i M 130 = R → ms_KM M 130 (20 + 42 * c) kd0 L → ms_RW M 130 V →
    ∃ M' : zz_M, b_X9_kind_46 n 129 (nI c) (nI v) (nI N) x.1 x.2 (nI k) M = some ((ms_fold (ms_gB (fun k => ms_fb (nI k) L V N v)) d k x).1, M') ∧ zz_i M' 130 = R ∧ me_same (fun q => q = 130) M M'
  | 0, n + 1, k, M, x, _, hk6, hk, hRR, hK, hR => by
    have : k = 6 := by omega
    subst this
    unfold b_X9_kind_46
    rw [if_pos (by decide)]
    exact ⟨M, rfl, hRR, me_same.rf⟩
  | d + 1, n + 1, k, M, x, hd, hk6, hk, hRR, hK, hR => by
    have hS0 : mr_same (fun j => 20 + 42 * c ≤ j ∧ j < 20 + 42 * c + 42 ∨ 4 ≤ j ∧ j < 20) M (zz_si M 130 (20 + 42 * c) (nI k)) := mr_same.si (by omega)
    have hR0 : ms_RW (zz_si M 130 (20 + 42 * c) (nI k)) 130 V := hR.row' (fun j _ _ => me_ine (by omega))
    obtain ⟨M1, hM1, hS1⟩ := e_X9_beh (M := zz_si M 130 (20 + 42 * c) (nI k)) (N := N) (v := v) hc hv hN (hK.kd (nI k)) hR0 hok 129
    have hM1 : f_X9_burnsBehind 129 (nI c) (nI v) (nI N) (zz_si M 130 (20 + 42 * c) (nI k)) = some (ms_fb (nI k) L V N v, M1) := hM1
    have hSS := hS0.tr hS1
    obtain ⟨M2, hM2, hR2, hS2⟩ := e_X9_putsBack hc 129 (hk.fr (hSS.ot (by decide))) (fun j hj => by rw [hSS.at (by omega), hRR])
    have er : zz_i M2 130 = zz_i M 130 := by rw [hR2, hRR]
    have hk2 := (hk.fr (hSS.ot (by decide))).fr (hS2.at (by decide))
    have hi : zz_in (nI (20 + 42 * c + 0)) 440 = true := me_in (by omega) (by decide)
    have hn : zz_n (nI (20 + 42 * c + 0)) = 20 + 42 * c := me_n (by omega)
    unfold b_X9_kind_46 b_X9_kind_87 b_X9_kind_103
    rw [if_neg (me_nlt (y := 5) 5 k rfl (by omega) (by decide)), e_X9_at c 0 (x := 0) rfl, zz_bd_some, if_pos hi, hn, me_wr, hM1, zz_bd_some, ms_fold, ms_gB]
    by_cases q : ms_fb (nI k) L V N v ≤ x.2
    · rw [if_pos q, if_pos q, if_pos q, hM2, zz_bd_some, me_wr, nI_1]
      obtain ⟨M3, hM3, hR3, hS3⟩ := e_X9_kind46 hc hv hN hok d n (k + 1) M2 x (by omega) (by omega) hk2 hR2 (hK.row er) (hR.row er)
      exact ⟨M3, hM3, hR3, (hSS.1.tr hS2).tr hS3⟩
    · rw [if_neg q, if_neg q, if_neg q, hM2, zz_bd_some, me_wr, nI_1]
      obtain ⟨M3, hM3, hR3, hS3⟩ := e_X9_kind46 hc hv hN hok d n (k + 1) M2 (nI k, ms_fb (nI k) L V N v) (by omega) (by omega) hk2 hR2 (hK.row er) (hR.row er)
      exact ⟨M3, hM3, hR3, (hSS.1.tr hS2).tr hS3⟩
theorem op_kind {M : zz_M} (hI : mi_Inv M) (x1 x2 x3 : Int32) : zw_eq mi_Inv (f_X8_kind 0 x1 x2 x3) (f_X9_kind 129 x1 x2 x3) M := by
  obtain ⟨Z, hO, hC, hD⟩ := hI
  rcases ms_in_has (x := x1) (n := Z.1.2.1) hO.1.2.2.1 with h | ⟨h, c, hc, rfl⟩
  · refine mi_find0 (r := -1000000001) 0 (by decide) hO hC hD ?_ (fun M1 hs _ => ?_)
    · simp only [f_X8_kind, e_X1_has, hC.1.2.1, h, zz_bd_some, me_wr, me_t0, me_t1, if_true, if_false, e_fi0]
    · simp only [f_X9_kind, e_X9_isCandle, hs.1, h, zz_bd_some, me_wr, me_t0, me_t1, if_true, if_false, e_fs0]
  rcases ms_in_nat (x := x2) (l := 0) (h := 3) (a := 0) (b := 3) rfl rfl (by omega) (by omega) with h2 | ⟨h2, v, _, hv, rfl⟩
  · refine mi_find0 (r := -1000000001) 0 (by decide) hO hC hD ?_ (fun M1 hs _ => ?_)
    · simp only [f_X8_kind, e_X1_has, hC.1.2.1, h, e_X8_isVat, h2, zz_bd_some, me_wr, me_t0, me_t1, if_true, if_false, e_fi0]
    · simp only [f_X9_kind, e_X9_isCandle, hs.1, h, e_X9_isVat, h2, zz_bd_some, me_wr, me_t0, me_t1, if_true, if_false, e_fs0]
  rcases ms_in_nat (x := x3) (l := 0) (h := 40) (a := 0) (b := 40) rfl rfl (by omega) (by omega) with h3 | ⟨h3, n, _, hn, rfl⟩
  · refine mi_find0 (r := -1000000001) 0 (by decide) hO hC hD ?_ (fun M1 hs _ => ?_)
    · simp only [f_X8_kind, e_X1_has, hC.1.2.1, h, e_X8_isVat, h2, e_X8_within, h3, zz_bd_some, me_wr, me_t0, me_t1, if_true, if_false, e_fi0]
    · simp only [f_X9_kind, e_X9_isCandle, hs.1, h, e_X9_isVat, h2, e_X9_in, h3, zz_bd_some, me_wr, me_t0, me_t1, if_true, if_false, e_fs0]
  have hc10 : c < 10 := by have := hO.1.2.2.1; omega
  have hK := hC.1.2.2 c hc10
  have hM := hD.1.2.2 c hc
  have hzi : zz_in (nI c) 10 = true := me_in hc10 (by decide)
  have hzn : zz_n (nI c) = c := me_n (by omega)
  have hv4 : v < 4 := by omega
  have hvi : zz_in (nI v) 4 = true := me_in hv4 (by decide)
  have hvn : zz_n (nI v) = v := me_n (by omega)
  obtain ⟨M1, hM1, hS1⟩ := e_X8_kind44 hc10 hv4 hn hO.1.1 6 zz_fuel 0 M (0, -1) (by decide) (by omega) hK hC.1.1
  have hS : me_same mi_cs M M1 := hS1.wk (fun q hq => by unfold mi_cs; omega)
  have hD1 := mi_cl hO hD hS
  obtain ⟨M2, hM2, hk2, hS2⟩ := e_X9_keeps (M := M1) hc10 129
  have er : zz_i M2 130 = zz_i M1 130 := hS2.at (by decide)
  obtain ⟨M3, hM3, hR3, hS3⟩ := e_X9_kind46 hc10 hv4 hn hO.1.1 6 zz_fuel 0 M2 (0, -1) (by decide) (by omega) hk2 er ((hD1.2.2 c hc).row er) (hD1.2.1.row er)
  refine mi_shop (M1 := M1) (M2 := M3) (r := (ms_fold (ms_gB (fun k => ms_fb (nI k) (Z.1.2.2 c).2 Z.1.1 n v)) 6 0 (0, -1)).1) hO hC hD ?_ hS (mi_scr hC (fun q h1 h2 => hS1.at (by omega))) ?_ ((mi_ds.p hS2).tr (mi_ds.r hS3)) (hD1.row hO.1.2.2.1 hR3) hO.1
  · simp only [f_X8_kind, e_X1_has, hC.1.2.1, h, e_X8_isVat, h2, e_X8_within, h3, zz_bd_some, me_wr, me_t0, me_t1, if_true, if_false]
    exact hM1
  · simp only [f_X9_kind, e_X9_isCandle, hD1.1, h, e_X9_isVat, h2, e_X9_in, h3, zz_bd_some, me_wr, me_t0, me_t1, if_true, if_false, hM2]
    exact hM3
