/-! Asking ahead. -/
/-- the reference's row comes back from where it was kept -/
theorem e_X9_undone {M1 M2 : zz_M} {P : Nat → Prop} {R : Nat → Int32} (a : Nat) (hk : ∀ j, j < 440 → zz_i M1 132 j = R j) (h2 : mr_same P M1 M2) :
    ∃ M3 : zz_M, f_X9_moveAll a 0 132 M2 = some ((), M3) ∧ (∀ j, j < 440 → zz_i M3 130 j = R j) ∧ me_same (fun q => q = 130) M2 M3 := by
  obtain ⟨M3, hM3, hA, hS⟩ := e_X9_back (M := M2) a (a2 := 132) (by decide)
  exact ⟨M3, hM3, fun j hj => by rw [hA j hj, h2.ot (by decide), hk j hj], hS⟩
theorem mi_ds.k {M M' : zz_M} (h : me_same (fun q => q = 132) M M') : mi_ds M M' := mi_ds.of h (fun q hq => Or.inr (Or.inl hq))
theorem mi_ds.p {M M' : zz_M} (h : me_same (fun q => q = 133) M M') : mi_ds M M' := mi_ds.of h (fun q hq => Or.inr (Or.inr (Or.inl hq)))
theorem mi_ds.r {M M' : zz_M} (h : me_same (fun q => q = 130) M M') : mi_ds M M' := mi_ds.of h (fun q hq => Or.inl hq)
theorem ms_SM.back {M M' : zz_M} {S : ms_S} (h : ms_SM M 130 S) (hn : S.2.1 ≤ 10) (e : ∀ j, j < 440 → zz_i M' 130 j = zz_i M 130 j) : ms_SM M' 130 S := h.fr hn e
theorem mi_cl {M M1 : zz_M} {Z : ms_Z} (hO : mi_O Z) (hD : mi_D M Z) (eg : me_same mi_cs M M1) : ms_SM M1 130 Z.1 := hD.1.fr hO.1.2.2.1 (fun j _ => by rw [eg.at (by unfold mi_cs; omega)])
theorem mi_clD {M M1 : zz_M} {Z : ms_Z} (hO : mi_O Z) (hD : mi_D M Z) (eg : me_same mi_cs M M1) : mi_D M1 Z := hD.cl hO (fun q hq => eg.at (by unfold mi_cs; omega)) (fun q _ => by rw [eg.2])
theorem mi_scr {M M1 : zz_M} {Z : ms_Z} (hC : mi_C M Z) (h : ∀ q, 1 ≤ q → q < 29 → zz_i M1 q = zz_i M q) : ms_SC M1 1 Z.1 := hC.1.fr (fun q h1 h2 => h q h1 (by omega))
theorem op_warm {M : zz_M} (hI : mi_Inv M) (x1 x2 : Int32) : zw_eq mi_Inv (f_X8_warm 0 x1 x2) (f_X9_warm 129 x1 x2) M := by
  obtain ⟨Z, hO, hC, hD⟩ := hI
  rcases ms_in_nat (x := x1) (l := 0) (h := 3) (a := 0) (b := 3) rfl rfl (by omega) (by omega) with h | ⟨h, v, _, hv, rfl⟩
  · refine mi_find0 (r := -1000000001) 0 (by decide) hO hC hD ?_ (fun M1 hs _ => ?_)
    · simp only [f_X8_warm, e_X8_isVat, h, zz_bd_some, me_wr, me_t0, me_t1, if_true, if_false, e_fi0]
    · simp only [f_X9_warm, e_X9_isVat, h, zz_bd_some, me_wr, me_t0, me_t1, if_true, if_false, e_fs0]
  rcases ms_in_nat (x := x2) (l := 0) (h := 200) (a := 0) (b := 200) rfl rfl (by omega) (by omega) with h2 | ⟨h2, n, _, hn, rfl⟩
  · refine mi_find0 (r := -1000000001) 0 (by decide) hO hC hD ?_ (fun M1 hs _ => ?_)
    · simp only [f_X8_warm, e_X8_isVat, e_X8_within, h, h2, zz_bd_some, me_wr, me_t0, me_t1, if_true, if_false, e_fi0]
    · simp only [f_X9_warm, e_X9_isVat, e_X9_in, h, h2, zz_bd_some, me_wr, me_t0, me_t1, if_true, if_false, e_fs0]
  have hv4 : v < 4 := by omega
  have hvi : zz_in (nI v) 4 = true := me_in hv4 (by decide)
  have hvn : zz_n (nI v) = v := me_n (by omega)
  have i3 : zz_in (3 : Int32) 440 = true := rfl
  have z3 : zz_n (3 : Int32) = 3 := rfl
  by_cases q : Z.1.1 3 + nI n ≤ 9999
  · obtain ⟨M1, hM1, hR1, hS1⟩ := e_X7_become (M := M) (a := 57) (by omega) hC.1.1 hO.1.1
    obtain ⟨M2, hM2, hR2, hS2⟩ := e_X7_pass (n := n) (by omega) hR1 hO.1.1
    have hS : me_same mi_cs M M2 := (hS1.wk (fun q hq => by unfold mi_cs; omega)).tr (hS2.wk (fun q hq => by unfold mi_cs; omega))
    have hD2 := mi_cl hO hD hS
    obtain ⟨M3, hM3, hA3, hS3⟩ := e_X9_keep (M := M2) 129 (a2 := 132) (by decide)
    have er : zz_i M3 130 = zz_i M2 130 := hS3.at (by decide)
    obtain ⟨M4, hM4, hR4, hS4⟩ := e_X9_go (n := n) 129 (by omega) (hD2.2.1.row er) hO.1.1
    obtain ⟨M5, hM5, hA5, hS5⟩ := e_X9_undone 129 hA3 hS4
    refine mi_shop (M1 := M2) (M2 := M5) (r := ms_pass n Z.1.1 (4 + 4 * v + 1)) (S := Z.1) hO hC hD ?_ hS (mi_scr hC (fun q h1 h2 => (hS2.at (by omega)).trans (hS1.at (by omega)))) ?_ (((mi_ds.k hS3).tr (mi_ds.mr hS4)).tr (mi_ds.r hS5)) (hD2.back hO.1.2.2.1 hA5) hO.1
    · simp only [f_X8_warm, e_X8_isVat, e_X8_within, h, h2, zz_bd_some, me_wr, me_t0, me_t1, if_true, if_false, hC.1.1.2.2.1, q, hM1, hM2, hvi, hvn, show 57 + 1 + 1 + v = 57 + 2 + v by omega, hR2.2.2.2 v hv4 1 (by omega)]
    · simp only [f_X9_warm, e_X9_isVat, e_X9_in, h, h2, zz_bd_some, me_wr, me_t0, me_t1, if_true, if_false, i3, z3, hD2.2.1 3 (by omega) (by omega), q, hM3, hM4, e_X9_its hv4 (show 1 < 4 by omega) (show (1 : Int32) = nI 1 from rfl), hR4 (4 + 4 * v + 1) (by omega) (by omega), hM5]
  · refine mi_find0 (r := -1000000005) 4 (by decide) hO hC hD ?_ (fun M1 hs _ => ?_)
    · simp only [f_X8_warm, e_X8_isVat, e_X8_within, h, h2, zz_bd_some, me_wr, me_t0, me_t1, if_true, if_false, hC.1.1.2.2.1, q, e_fi4]
    · simp only [f_X9_warm, e_X9_isVat, e_X9_in, h, h2, zz_bd_some, me_wr, me_t0, me_t1, if_true, if_false, i3, z3, hs.2.1 3 (by omega) (by omega), q, e_fs4]
/-- in how many hours first -/
def ms_wh (p : (Nat → Int32) → Bool) : Nat → Nat → (Nat → Int32) → Option Nat
  | 0, _, _ => none
  | d + 1, i, V => if p V = true then some i else ms_wh p d (i + 1) (ms_hour V)
theorem e_X8_when67 {v : Nat} {w : Int32} (hv : v < 4) : ∀ (d n i : Nat) (M : zz_M) (V : Nat → Int32), d < n → i + d = 201 → ms_RV M 57 V → ms_okV V →
    ∃ M' : zz_M, b_X8_when_67 n 0 (nI v) w (nI i) M = (Option.elim (ms_wh (fun V => decide (w ≤ V (4 + 4 * v + 1))) d i V) (some (-1000000004, ms_fC 3 M')) (fun k => some (nI k, M'))) ∧ me_same (fun q => 57 ≤ q ∧ q < 57 + 6) M M'
  | 0, n + 1, i, M, V, _, hi, hR, hok => by
    have : i = 201 := by omega
    subst this
    unfold b_X8_when_67
    rw [if_pos (by decide), e_fi3, zz_bd_some]
    exact ⟨M, rfl, me_same.rf⟩
  | d + 1, n + 1, i, M, V, hd, hi, hR, hok => by
    unfold b_X8_when_67 ms_wh
    rw [if_neg (me_nlt (y := 200) 200 i rfl (by omega) (by decide)), if_pos (me_in hv (by decide)), me_n (by omega), show 57 + 1 + 1 + v = 57 + 2 + v by omega, hR.2.2.2 v hv 1 (by omega)]
    by_cases q : V (4 + 4 * v + 1) < w
    · rw [if_pos q, if_neg (by simp only [decide_eq_true_eq]; exact Int32.not_le.mpr q)]
      obtain ⟨M1, hM1, hR1, hS1⟩ := e_X7_pass (n := 1) (by omega) hR hok
      have hM1 : f_X7_pass 57 1 M = some ((), M1) := hM1
      rw [hM1, zz_bd_some, me_wr, nI_1]
      obtain ⟨M2, hM2, hS2⟩ := e_X8_when67 (w := w) hv d n (i + 1) M1 (ms_hour V) (by omega) (by omega) hR1 (ms_hour_ok hok)
      exact ⟨M2, hM2, hS1.tr hS2⟩
    · rw [if_neg q, if_pos (by simp only [decide_eq_true_eq]; exact Int32.not_lt.mp q)]
      exact ⟨M, rfl, me_same.rf⟩
theorem ms_wh_le (p : (Nat → Int32) → Bool) : ∀ (d i : Nat) (V : Nat → Int32) (k : Nat), ms_wh p d i V = some k → k < i + d
  | 0, _, _, _, h => by simp [ms_wh] at h
  | d + 1, i, V, k, h => by
    unfold ms_wh at h
    split at h
    · injection h with h; omega
    · have := ms_wh_le p d (i + 1) _ k h; omega
/-- the reference's loops end here -/
theorem e_X9_when81 {R : Nat → Int32} {k : Nat} (hk : k ≤ 201) {M1 M2 : zz_M} {P : Nat → Prop} (hA : ∀ j, j < 440 → zz_i M1 132 j = R j) (h2 : mr_same P M1 M2) :
    ∃ M3 : zz_M, b_X9_when_81 129 (nI k) M2 = (if k = 201 then some (-1000000004, ms_fM 3 M3) else some (nI k, M3)) ∧ b_X9_takesIn_96 129 (nI k) M2 = (if k = 201 then some (-1000000004, ms_fM 3 M3) else some (nI k, M3)) ∧ (∀ j, j < 440 → zz_i M3 130 j = R j) ∧ me_same (fun q => q = 130) M2 M3 := by
  obtain ⟨M3, hM3, hA3, hS3⟩ := e_X9_undone 129 hA h2
  refine ⟨M3, ?_, ?_, hA3, hS3⟩
  · unfold b_X9_when_81
    rw [hM3, zz_bd_some]
    by_cases q : k = 201
    · rw [if_pos q, if_pos (by rw [q]; decide), e_fs3, zz_bd_some]
    · rw [if_neg q, if_neg (me_nlt (y := 200) 200 k rfl (by omega) (by decide))]
  · unfold b_X9_takesIn_96
    rw [hM3, zz_bd_some]
    by_cases q : k = 201
    · rw [if_pos q, if_pos (by rw [q]; decide), e_fs3, zz_bd_some]
    · rw [if_neg q, if_neg (me_nlt (y := 200) 200 k rfl (by omega) (by decide))]
theorem e_X9_when54 {v : Nat} {w : Int32} {R : Nat → Int32} {M1 : zz_M} (hv : v < 4) (hA : ∀ j, j < 440 → zz_i M1 132 j = R j) : ∀ (d n i : Nat) (M : zz_M) (V : Nat → Int32), d < n → i + d = 201 → ms_RW M 130 V → ms_okV V → mr_same (fun j => 1 ≤ j ∧ j < 20) M1 M →
    ∃ M' : zz_M, b_X9_when_54 n 129 (nI v) w (nI i) M = (Option.elim (ms_wh (fun V => decide (w ≤ V (4 + 4 * v + 1))) d i V) (some (-1000000004, ms_fM 3 M')) (fun k => some (nI k, M'))) ∧ (∀ j, j < 440 → zz_i M' 130 j = R j) ∧ me_same (fun q => q = 130) M1 M'
  | 0, n + 1, i, M, V, _, hi, hR, hok, hS => by
    have : i = 201 := by omega
    subst this
    obtain ⟨M3, a1, _, a3, a4⟩ := e_X9_when81 (k := 201) (by omega) hA hS
    unfold b_X9_when_54
    rw [if_pos (by decide), a1, if_pos rfl]
    exact ⟨M3, rfl, a3, hS.1.tr a4⟩
  | d + 1, n + 1, i, M, V, hd, hi, hR, hok, hS => by
    unfold b_X9_when_54 ms_wh
    rw [if_neg (me_nlt (y := 200) 200 i rfl (by omega) (by decide)), e_X9_its hv (k := 1) (x := 1) (by omega) rfl, zz_bd_some, hR (4 + 4 * v + 1) (by omega) (by omega)]
    by_cases q : w ≤ V (4 + 4 * v + 1)
    · rw [if_pos q, if_pos (by simp only [decide_eq_true_eq]; exact q)]
      obtain ⟨M3, a1, _, a3, a4⟩ := e_X9_when81 (k := i) (by omega) hA hS
      rw [a1, if_neg (by omega)]
      exact ⟨M3, rfl, a3, hS.1.tr a4⟩
    · rw [if_neg q, if_neg (by simp only [decide_eq_true_eq]; exact q)]
      obtain ⟨M2, hM2, hR2, hS2⟩ := e_X9_anHour 129 hR hok
      rw [hM2, zz_bd_some, me_wr, nI_1]
      exact e_X9_when54 hv hA d n (i + 1) M2 (ms_hour V) (by omega) (by omega) hR2 (ms_hour_ok hok) (hS.tr hS2)
theorem ms_9799 {x : Int32} (h0 : 0 ≤ x) (h1 : x ≤ 9999) : (x + 200 ≤ 9999) = (x ≤ 9799) := by
  apply propext
  constructor <;> intro h <;> grind
theorem op_when {M : zz_M} (hI : mi_Inv M) (x1 x2 : Int32) : zw_eq mi_Inv (f_X8_when 0 x1 x2) (f_X9_when 129 x1 x2) M := by
  obtain ⟨Z, hO, hC, hD⟩ := hI
  rcases ms_in_nat (x := x1) (l := 0) (h := 3) (a := 0) (b := 3) rfl rfl (by omega) (by omega) with h | ⟨h, v, _, hv, rfl⟩
  · refine mi_find0 (r := -1000000001) 0 (by decide) hO hC hD ?_ (fun M1 hs _ => ?_)
    · simp only [f_X8_when, e_X8_isVat, h, zz_bd_some, me_wr, me_t0, me_t1, if_true, if_false, e_fi0]
    · simp only [f_X9_when, e_X9_isVat, h, zz_bd_some, me_wr, me_t0, me_t1, if_true, if_false, e_fs0]
  rcases ms_in_cases x2 0 99 with ⟨h2, -⟩ | ⟨h2, -, -⟩
  · refine mi_find0 (r := -1000000001) 0 (by decide) hO hC hD ?_ (fun M1 hs _ => ?_)
    · simp only [f_X8_when, e_X8_isVat, e_X8_within, h, h2, zz_bd_some, me_wr, me_t0, me_t1, if_true, if_false, e_fi0]
    · simp only [f_X9_when, e_X9_isVat, e_X9_in, h, h2, zz_bd_some, me_wr, me_t0, me_t1, if_true, if_false, e_fs0]
  have hv4 : v < 4 := by omega
  have hvi : zz_in (nI v) 4 = true := me_in hv4 (by decide)
  have hvn : zz_n (nI v) = v := me_n (by omega)
  have i3 : zz_in (3 : Int32) 440 = true := rfl
  have z3 : zz_n (3 : Int32) = 3 := rfl
  by_cases q : Z.1.1 3 ≤ 9799
  · have q' : Z.1.1 3 + 200 ≤ 9999 := by rw [ms_9799 hO.1.2.1.1 hO.1.2.1.2]; exact q
    obtain ⟨M1, hM1, hR1, hS1⟩ := e_X7_become (M := M) (a := 57) (by omega) hC.1.1 hO.1.1
    obtain ⟨M2, hM2, hS2⟩ := e_X8_when67 (w := x2) hv4 201 zz_fuel 0 M1 Z.1.1 (by decide) (by omega) hR1 hO.1.1
    have hS : me_same mi_cs M M2 := (hS1.wk (fun q hq => by unfold mi_cs; omega)).tr (hS2.wk (fun q hq => by unfold mi_cs; omega))
    have hg : f_X8_when 0 (nI v) x2 M = (Option.elim (ms_wh (fun V => decide (x2 ≤ V (4 + 4 * v + 1))) 201 0 Z.1.1) (some (-1000000004, ms_fC 3 M2)) (fun k => some (nI k, M2))) := by
      simp only [f_X8_when, e_X8_isVat, e_X8_within, h, h2, zz_bd_some, me_wr, me_t0, me_t1, if_true, if_false, hC.1.1.2.2.1, q', hM1]
      exact hM2
    have hSC := mi_scr hC (fun q h1 h2 => (hS2.at (by omega)).trans (hS1.at (by omega)))
    have hh : ∀ Mx : zz_M, mi_D Mx Z → ∃ M' : zz_M, f_X9_when 129 (nI v) x2 Mx = (Option.elim (ms_wh (fun V => decide (x2 ≤ V (4 + 4 * v + 1))) 201 0 Z.1.1) (some (-1000000004, ms_fM 3 M')) (fun k => some (nI k, M'))) ∧ mi_ds Mx M' ∧ ms_SM M' 130 Z.1 := by
      intro Mx hDx
      obtain ⟨M3, hM3, hA3, hS3⟩ := e_X9_keep (M := Mx) 129 (a2 := 132) (by decide)
      have er : zz_i M3 130 = zz_i Mx 130 := hS3.at (by decide)
      obtain ⟨M4, hM4, hA4, hS4⟩ := e_X9_when54 (w := x2) hv4 hA3 201 zz_fuel 0 M3 Z.1.1 (by decide) (by omega) (hDx.1.2.1.row er) hO.1.1 mr_same.rf
      refine ⟨M4, ?_, (mi_ds.k hS3).tr (mi_ds.r hS4), hDx.1.back hO.1.2.2.1 hA4⟩
      simp only [f_X9_when, e_X9_isVat, e_X9_in, h, h2, zz_bd_some, me_wr, me_t0, me_t1, if_true, if_false, i3, z3, hDx.1.2.1 3 (by omega) (by omega), q, hM3]
      exact hM4
    generalize hw : ms_wh (fun V => decide (x2 ≤ V (4 + 4 * v + 1))) 201 0 Z.1.1 = o at hg hh
    cases o with
    | none =>
      have hD1 : mi_D (ms_fC 3 M2) Z := (mi_clD hO hD hS).cl hO (fun q hq => zz_i_si_ne (by omega)) (fun _ _ => rfl)
      obtain ⟨M5, b1, b2, b3⟩ := hh _ hD1
      exact mi_find 3 (by decide) hO hC hD hg hS hSC b1 b2 b3
    | some k =>
      obtain ⟨M5, b1, b2, b3⟩ := hh _ (mi_clD hO hD hS)
      exact mi_shop hO hC hD hg hS hSC b1 b2 b3 hO.1
  · have q' : ¬ Z.1.1 3 + 200 ≤ 9999 := by rw [ms_9799 hO.1.2.1.1 hO.1.2.1.2]; exact q
    refine mi_find0 (r := -1000000005) 4 (by decide) hO hC hD ?_ (fun M1 hs _ => ?_)
    · simp only [f_X8_when, e_X8_isVat, e_X8_within, h, h2, zz_bd_some, me_wr, me_t0, me_t1, if_true, if_false, hC.1.1.2.2.1, q', e_fi4]
    · simp only [f_X9_when, e_X9_isVat, e_X9_in, h, h2, zz_bd_some, me_wr, me_t0, me_t1, if_true, if_false, i3, z3, hs.2.1 3 (by omega) (by omega), q, e_fs4]
theorem e_X8_takes90 {v a : Nat} {w kd : Int32} {L : List Int32} (hv : v < 4) (ha : a + 1 < 57) : ∀ (d n i : Nat) (M : zz_M) (V : Nat → Int32), d < n → i + d = 201 → ms_KC M a kd L → ms_RV M 57 V → ms_okV V →
    ∃ M' : zz_M, b_X8_takesIn_90 n 0 (nI v) w a (nI i) M = (Option.elim (ms_wh (fun V => decide (w ≤ ms_gain kd (nI L.length) (V (4 + 4 * v + 1)))) d i V) (some (-1000000004, ms_fC 3 M')) (fun k => some (nI k, M'))) ∧ me_same (fun q => 57 ≤ q ∧ q < 57 + 6) M M'
  | 0, n + 1, i, M, V, _, hi, hK, hR, hok => by
    have : i = 201 := by omega
    subst this
    unfold b_X8_takesIn_90
    rw [if_pos (by decide), e_fi3, zz_bd_some]
    exact ⟨M, rfl, me_same.rf⟩
  | d + 1, n + 1, i, M, V, hd, hi, hK, hR, hok => by
    unfold b_X8_takesIn_90 ms_wh
    rw [if_neg (me_nlt (y := 200) 200 i rfl (by omega) (by decide)), if_pos (me_in hv (by decide)), me_n (by omega), show 57 + 1 + 1 + v = 57 + 2 + v by omega, hR.2.2.2 v hv 1 (by omega), e_X0_gain, zz_bd_some, hK.1, hK.2.1]
    by_cases q : ms_gain kd (nI L.length) (V (4 + 4 * v + 1)) < w
    · rw [if_pos q, if_neg (by simp only [decide_eq_true_eq]; exact Int32.not_le.mpr q)]
      obtain ⟨M1, hM1, hR1, hS1⟩ := e_X7_pass (n := 1) (by omega) hR hok
      have hM1 : f_X7_pass 57 1 M = some ((), M1) := hM1
      rw [hM1, zz_bd_some, me_wr, nI_1]
      obtain ⟨M2, hM2, hS2⟩ := e_X8_takes90 (w := w) hv ha d n (i + 1) M1 (ms_hour V) (by omega) (by omega) (hK.fr (hS1.at (by omega)) (hS1.at (by omega))) hR1 (ms_hour_ok hok)
      exact ⟨M2, hM2, hS1.tr hS2⟩
    · rw [if_neg q, if_pos (by simp only [decide_eq_true_eq]; exact Int32.not_lt.mp q)]
      exact ⟨M, rfl, me_same.rf⟩
theorem e_X9_takes63 {v c : Nat} {w kd : Int32} {L : List Int32} {R : Nat → Int32} {M1 : zz_M} (hv : v < 4) (hc : c < 10) (hA : ∀ j, j < 440 → zz_i M1 132 j = R j) : ∀ (d n i : Nat) (M : zz_M) (V : Nat → Int32), d < n → i + d = 201 → ms_KM M 130 (20 + 42 * c) kd L → ms_RW M 130 V → ms_okV V → mr_same (fun j => 1 ≤ j ∧ j < 20) M1 M →
    ∃ M' : zz_M, b_X9_takesIn_63 n 129 (nI c) (nI v) w (nI i) M = (Option.elim (ms_wh (fun V => decide (w ≤ ms_gain kd (nI L.length) (V (4 + 4 * v + 1)))) d i V) (some (-1000000004, ms_fM 3 M')) (fun k => some (nI k, M'))) ∧ (∀ j, j < 440 → zz_i M' 130 j = R j) ∧ me_same (fun q => q = 130) M1 M'
  | 0, n + 1, i, M, V, _, hi, hK, hR, hok, hS => by
    have : i = 201 := by omega
    subst this
    obtain ⟨M3, _, a1, a3, a4⟩ := e_X9_when81 (k := 201) (by omega) hA hS
    unfold b_X9_takesIn_63
    rw [if_pos (by decide), a1, if_pos rfl]
    exact ⟨M3, rfl, a3, hS.1.tr a4⟩
  | d + 1, n + 1, i, M, V, hd, hi, hK, hR, hok, hS => by
    unfold b_X9_takesIn_63 ms_wh
    rw [if_neg (me_nlt (y := 200) 200 i rfl (by omega) (by decide)), e_X9_its hv (k := 1) (x := 1) (by omega) rfl, zz_bd_some, hR (4 + 4 * v + 1) (by omega) (by omega), e_X9_takesAt hc, zz_bd_some, hK.1, hK.2.1]
    by_cases q : w ≤ ms_gain kd (nI L.length) (V (4 + 4 * v + 1))
    · rw [if_pos q, if_pos (by simp only [decide_eq_true_eq]; exact q)]
      obtain ⟨M3, _, a1, a3, a4⟩ := e_X9_when81 (k := i) (by omega) hA hS
      rw [a1, if_neg (by omega)]
      exact ⟨M3, rfl, a3, hS.1.tr a4⟩
    · rw [if_neg q, if_neg (by simp only [decide_eq_true_eq]; exact q)]
      obtain ⟨M2, hM2, hR2, hS2⟩ := e_X9_anHour 129 hR hok
      rw [hM2, zz_bd_some, me_wr, nI_1]
      exact e_X9_takes63 hv hc hA d n (i + 1) M2 (ms_hour V) (by omega) (by omega) (hK.fr (fun j _ _ => hS2.at (by omega))) hR2 (ms_hour_ok hok) (hS.tr hS2)
theorem op_takesIn {M : zz_M} (hI : mi_Inv M) (x1 x2 x3 : Int32) : zw_eq mi_Inv (f_X8_takesIn 0 x1 x2 x3) (f_X9_takesIn 129 x1 x2 x3) M := by
  obtain ⟨Z, hO, hC, hD⟩ := hI
  rcases ms_in_has (x := x1) (n := Z.1.2.1) hO.1.2.2.1 with h | ⟨h, c, hc, rfl⟩
  · refine mi_find0 (r := -1000000001) 0 (by decide) hO hC hD ?_ (fun M1 hs _ => ?_)
    · simp only [f_X8_takesIn, e_X1_has, hC.1.2.1, h, zz_bd_some, me_wr, me_t0, me_t1, if_true, if_false, e_fi0]
    · simp only [f_X9_takesIn, e_X9_isCandle, hs.1, h, zz_bd_some, me_wr, me_t0, me_t1, if_true, if_false, e_fs0]
  rcases ms_in_nat (x := x2) (l := 0) (h := 3) (a := 0) (b := 3) rfl rfl (by omega) (by omega) with h2 | ⟨h2, v, _, hv, rfl⟩
  · refine mi_find0 (r := -1000000001) 0 (by decide) hO hC hD ?_ (fun M1 hs _ => ?_)
    · simp only [f_X8_takesIn, e_X1_has, hC.1.2.1, h, e_X8_isVat, h2, zz_bd_some, me_wr, me_t0, me_t1, if_true, if_false, e_fi0]
    · simp only [f_X9_takesIn, e_X9_isCandle, hs.1, h, e_X9_isVat, h2, zz_bd_some, me_wr, me_t0, me_t1, if_true, if_false, e_fs0]
  rcases ms_in_cases x3 1 99 with ⟨h3, -⟩ | ⟨h3, -, -⟩
  · refine mi_find0 (r := -1000000001) 0 (by decide) hO hC hD ?_ (fun M1 hs _ => ?_)
    · simp only [f_X8_takesIn, e_X1_has, hC.1.2.1, h, e_X8_isVat, h2, e_X8_within, h3, zz_bd_some, me_wr, me_t0, me_t1, if_true, if_false, e_fi0]
    · simp only [f_X9_takesIn, e_X9_isCandle, hs.1, h, e_X9_isVat, h2, e_X9_in, h3, zz_bd_some, me_wr, me_t0, me_t1, if_true, if_false, e_fs0]
  have hc10 : c < 10 := by have := hO.1.2.2.1; omega
  have hK := hC.1.2.2 c hc10
  have hM := hD.1.2.2 c hc
  have hzi : zz_in (nI c) 10 = true := me_in hc10 (by decide)
  have hzn : zz_n (nI c) = c := me_n (by omega)
  have hv4 : v < 4 := by omega
  have hvi : zz_in (nI v) 4 = true := me_in hv4 (by decide)
  have hvn : zz_n (nI v) = v := me_n (by omega)
  have i3 : zz_in (3 : Int32) 440 = true := rfl
  have z3 : zz_n (3 : Int32) = 3 := rfl
  by_cases q : Z.1.1 3 ≤ 9799
  · have q' : Z.1.1 3 + 200 ≤ 9999 := by rw [ms_9799 hO.1.2.1.1 hO.1.2.1.2]; exact q
    obtain ⟨M1, hM1, hR1, hS1⟩ := e_X7_become (M := M) (a := 57) (by omega) hC.1.1 hO.1.1
    obtain ⟨M2, hM2, hS2⟩ := e_X8_takes90 (w := x3) (a := 1 + 7 + 1 + 2 * c) hv4 (by omega) 201 zz_fuel 0 M1 Z.1.1 (by decide) (by omega) (hK.fr (hS1.at (by omega)) (hS1.at (by omega))) hR1 hO.1.1
    have hS : me_same mi_cs M M2 := (hS1.wk (fun q hq => by unfold mi_cs; omega)).tr (hS2.wk (fun q hq => by unfold mi_cs; omega))
    have hg : f_X8_takesIn 0 (nI c) (nI v) x3 M = (Option.elim (ms_wh (fun V => decide (x3 ≤ ms_gain (Z.1.2.2 c).1 (nI (Z.1.2.2 c).2.length) (V (4 + 4 * v + 1)))) 201 0 Z.1.1) (some (-1000000004, ms_fC 3 M2)) (fun k => some (nI k, M2))) := by
      simp only [f_X8_takesIn, e_X1_has, hC.1.2.1, h, e_X8_isVat, h2, e_X8_within, h3, hzi, hzn, zz_bd_some, me_wr, me_t0, me_t1, if_true, if_false, hC.1.1.2.2.1, q', hM1]
      exact hM2
    have hSC := mi_scr hC (fun q h1 h2 => (hS2.at (by omega)).trans (hS1.at (by omega)))
    have hh : ∀ Mx : zz_M, mi_D Mx Z → ∃ M' : zz_M, f_X9_takesIn 129 (nI c) (nI v) x3 Mx = (Option.elim (ms_wh (fun V => decide (x3 ≤ ms_gain (Z.1.2.2 c).1 (nI (Z.1.2.2 c).2.length) (V (4 + 4 * v + 1)))) 201 0 Z.1.1) (some (-1000000004, ms_fM 3 M')) (fun k => some (nI k, M'))) ∧ mi_ds Mx M' ∧ ms_SM M' 130 Z.1 := by
      intro Mx hDx
      obtain ⟨M3, hM3, hA3, hS3⟩ := e_X9_keep (M := Mx) 129 (a2 := 132) (by decide)
      have er : zz_i M3 130 = zz_i Mx 130 := hS3.at (by decide)
      obtain ⟨M4, hM4, hA4, hS4⟩ := e_X9_takes63 (w := x3) hv4 hc10 hA3 201 zz_fuel 0 M3 Z.1.1 (by decide) (by omega) ((hDx.1.2.2 c hc).row er) (hDx.1.2.1.row er) hO.1.1 mr_same.rf
      refine ⟨M4, ?_, (mi_ds.k hS3).tr (mi_ds.r hS4), hDx.1.back hO.1.2.2.1 hA4⟩
      simp only [f_X9_takesIn, e_X9_isCandle, hDx.1.1, h, e_X9_isVat, h2, e_X9_in, h3, zz_bd_some, me_wr, me_t0, me_t1, if_true, if_false, i3, z3, hDx.1.2.1 3 (by omega) (by omega), q, hM3]
      exact hM4
    generalize hw : ms_wh (fun V => decide (x3 ≤ ms_gain (Z.1.2.2 c).1 (nI (Z.1.2.2 c).2.length) (V (4 + 4 * v + 1)))) 201 0 Z.1.1 = o at hg hh
    cases o with
    | none =>
      have hD1 : mi_D (ms_fC 3 M2) Z := (mi_clD hO hD hS).cl hO (fun q hq => zz_i_si_ne (by omega)) (fun _ _ => rfl)
      obtain ⟨M5, b1, b2, b3⟩ := hh _ hD1
      exact mi_find 3 (by decide) hO hC hD hg hS hSC b1 b2 b3
    | some k =>
      obtain ⟨M5, b1, b2, b3⟩ := hh _ (mi_clD hO hD hS)
      exact mi_shop hO hC hD hg hS hSC b1 b2 b3 hO.1
  · have q' : ¬ Z.1.1 3 + 200 ≤ 9999 := by rw [ms_9799 hO.1.2.1.1 hO.1.2.1.2]; exact q
    refine mi_find0 (r := -1000000005) 4 (by decide) hO hC hD ?_ (fun M1 hs _ => ?_)
    · simp only [f_X8_takesIn, e_X1_has, hC.1.2.1, h, e_X8_isVat, h2, e_X8_within, h3, hzi, hzn, zz_bd_some, me_wr, me_t0, me_t1, if_true, if_false, hC.1.1.2.2.1, q', e_fi4]
    · simp only [f_X9_takesIn, e_X9_isCandle, hs.1, h, e_X9_isVat, h2, e_X9_in, h3, zz_bd_some, me_wr, me_t0, me_t1, if_true, if_false, i3, z3, hs.2.1 3 (by omega) (by omega), q, e_fs4]
