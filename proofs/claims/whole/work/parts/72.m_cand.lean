/-! The calls of candles. -/
theorem ms_RW.row' {M M' : zz_M} {V : Nat → Int32} (h : ms_RW M 130 V) (e : ∀ j, 1 ≤ j → j < 20 → zz_i M' 130 j = zz_i M 130 j) : ms_RW M' 130 V := fun j h1 h2 => by rw [e j h1 h2, h j h1 h2]
def ms_uc (f : Nat → Int32 × List Int32) (c : Nat) (x : Int32 × List Int32) : Nat → Int32 × List Int32 := fun q => if q = c then x else f q
theorem ms_uc_hit {f : Nat → Int32 × List Int32} {c q : Nat} {x : Int32 × List Int32} (h : q = c) : ms_uc f c x q = x := if_pos h
theorem ms_uc_ne {f : Nat → Int32 × List Int32} {c q : Nat} {x : Int32 × List Int32} (h : ¬ q = c) : ms_uc f c x q = f q := if_neg h
theorem ms_SC.cand {M M' : zz_M} {a c : Nat} {S : ms_S} {V : Nat → Int32} {kd : Int32} {L : List Int32} (h : ms_SC M a S) (hc : c < 10) (hR : ms_RV M' (a + 1) V) (hK : ms_KC M' (a + 7 + 1 + 2 * c) kd L) (e : me_same (fun q => q = a + 7 + 1 + 2 * c ∨ q = a + 7 + 1 + 2 * c + 1 ∨ a + 1 ≤ q ∧ q < a + 7) M M') : ms_SC M' a (V, S.2.1, ms_uc S.2.2 c (kd, L)) := by
  obtain ⟨h1, h2, h3⟩ := h
  refine ⟨hR, by rw [e.at (by omega)]; exact h2, fun u hu => ?_⟩
  by_cases q : u = c
  · subst q
    simp only [ms_uc_hit]
    exact hK
  · simp only [ms_uc_ne q]
    exact (h3 u hu).fr (e.at (by omega)) (e.at (by omega))
theorem ms_SM.cand {M M' : zz_M} {c : Nat} {S : ms_S} {V : Nat → Int32} {kd : Int32} {L : List Int32} (h : ms_SM M 130 S) (hR : ms_RW M' 130 V) (hK : ms_KM M' 130 (20 + 42 * c) kd L) (e : mr_same (fun j => 20 + 42 * c ≤ j ∧ j < 20 + 42 * c + 42 ∨ 1 ≤ j ∧ j < 20) M M') : ms_SM M' 130 (V, S.2.1, ms_uc S.2.2 c (kd, L)) := by
  obtain ⟨h1, h2, h3⟩ := h
  refine ⟨by rw [e.at (by omega)]; exact h1, hR, fun u hu => ?_⟩
  by_cases q : u = c
  · subst q
    simp only [ms_uc_hit]
    exact hK
  · simp only [ms_uc_ne q]
    exact (h3 u hu).fr (fun j _ _ => e.at (by omega))
theorem ms_okS.cand {S : ms_S} {V : Nat → Int32} {c : Nat} {kd : Int32} {L : List Int32} (h : ms_okS S) (hV : ms_okV V) (h3 : 0 ≤ V 3 ∧ V 3 ≤ 9999) (hk : 0 ≤ kd ∧ kd ≤ 5) : ms_okS (V, S.2.1, ms_uc S.2.2 c (kd, L)) := by
  refine ⟨hV, h3, h.2.2.1, fun u hu => ?_⟩
  by_cases q : u = c
  · simp only [ms_uc_hit q]; exact hk
  · simp only [ms_uc_ne q]; exact h.2.2.2 u hu
def ms_add (S : ms_S) (k : Int32) : ms_S := (S.1, S.2.1 + 1, ms_uc S.2.2 S.2.1 (k, []))
theorem ms_add_ok {S : ms_S} {k : Int32} (h : ms_okS S) (hn : S.2.1 < 10) (hk : 0 ≤ k ∧ k ≤ 5) : ms_okS (ms_add S k) := by
  refine ⟨h.1, h.2.1, hn, fun u hu => ?_⟩
  show 0 ≤ (ms_uc S.2.2 S.2.1 (k, []) u).1 ∧ (ms_uc S.2.2 S.2.1 (k, []) u).1 ≤ 5
  by_cases q : u = S.2.1
  · rw [ms_uc_hit q]; exact hk
  · rw [ms_uc_ne q]; exact h.2.2.2 u hu
theorem e_X1_add {M : zz_M} {a : Nat} {S : ms_S} (k : Int32) (h : ms_SC M a S) (hn : S.2.1 < 10) :
    ∃ M' : zz_M, f_X1_addCandle a k M = some (1, M') ∧ ms_SC M' a (ms_add S k) ∧ me_same (fun q => a ≤ q ∧ q < a + 28) M M' := by
  obtain ⟨h1, h2, h3⟩ := h
  obtain ⟨M1, hM1, hK1, hS1⟩ := e_X0_strip (M := M) (a := a + 7 + 1 + 2 * S.2.1)
  have b1 : zz_i M1 a = zz_i M a := hS1.at (by omega)
  unfold f_X1_addCandle
  rw [h2, if_pos (me_lt (y := 10) (S.2.1) 10 rfl hn (by decide)), if_pos (me_in hn (by decide)), me_n (by omega), hM1, zz_bd_some, b1, h2, if_pos (me_in hn (by decide)), me_n (by omega), me_wr, me_wr, me_ine (by omega), b1, h2, nI_1]
  have hS2 : me_same (fun q => q = a ∨ q = a + 7 + 1 + 2 * S.2.1) M (zz_si (zz_si M1 (a + 7 + 1 + 2 * S.2.1) 0 k) a 2 (nI (S.2.1 + 1))) := ((hS1.wk (fun q hq => Or.inr hq)).tr (me_same.si (Or.inr rfl))).tr (me_same.si (Or.inl rfl))
  refine ⟨_, rfl, ⟨h1.fr (fun q _ _ => hS2.at (by omega)), me_hit rfl rfl, fun c hc => ?_⟩, hS2.wk (fun q hq => by omega)⟩
  show ms_KC _ (a + 7 + 1 + 2 * c) (ms_uc S.2.2 S.2.1 (k, []) c).1 (ms_uc S.2.2 S.2.1 (k, []) c).2
  by_cases q : c = S.2.1
  · subst q
    rw [ms_uc_hit rfl]
    refine (hK1.kd k).fr ?_ ?_
    · funext j; rw [me_ine (by omega)]
    · funext j; rw [me_ine (by omega)]
  · rw [ms_uc_ne q]
    refine (h3 c hc).fr ?_ ?_
    · funext j; rw [me_ine (by omega), me_ine (by omega), hS1.at (by omega)]
    · exact hS2.at (by omega)
theorem e_X1_full {M : zz_M} {a : Nat} {S : ms_S} (k : Int32) (h : ms_SC M a S) (hn : S.2.1 = 10) : f_X1_addCandle a k M = some (0, M) := by
  unfold f_X1_addCandle
  rw [h.2.1, hn, if_neg (by decide)]
theorem e_X9_add {M : zz_M} {S : ms_S} (k : Int32) (h : ms_SM M 130 S) (hn : S.2.1 < 10) (a : Nat) :
    ∃ M' : zz_M, f_X9_addCandle a k M = some ((), M') ∧ ms_SM M' 130 (ms_add S k) ∧ mr_same (fun j => j = 0 ∨ 20 + 42 * S.2.1 ≤ j ∧ j < 20 + 42 * S.2.1 + 42) M M' := by
  obtain ⟨h1, h2, h3⟩ := h
  have z0 : zz_n (0 : Int32) = 0 := rfl
  have i0 : zz_in (0 : Int32) 440 = true := rfl
  unfold f_X9_addCandle
  simp (disch := omega) only [i0, z0, if_true, me_wr, h1, e_X9_at S.2.1 0 (x := 0) rfl, e_X9_at S.2.1 1 (x := 1) rfl, zz_bd_some, me_zin (show 20 + 42 * S.2.1 + 0 < 440 by omega) (by decide), me_zin (show 20 + 42 * S.2.1 + 1 < 440 by omega) (by decide), me_n (show 20 + 42 * S.2.1 + 0 < 2 ^ 31 by omega), me_n (show 20 + 42 * S.2.1 + 1 < 2 ^ 31 by omega), me_ine, nI_1]
  refine ⟨_, rfl, ⟨me_hit rfl rfl, fun j hj1 hj2 => ?_, fun c hc => ?_⟩, ((mr_same.si (by omega)).tr (mr_same.si (by omega))).tr (mr_same.si (by omega))⟩
  · simp (disch := omega) only [me_ine]
    exact h2 j hj1 hj2
  · show ms_KM _ 130 (20 + 42 * c) (ms_uc S.2.2 S.2.1 (k, []) c).1 (ms_uc S.2.2 S.2.1 (k, []) c).2
    have hc : c < S.2.1 + 1 := hc
    by_cases q : c = S.2.1
    · subst q
      rw [ms_uc_hit rfl]
      refine ⟨?_, ?_, trivial, ms_Lok.nil⟩
      · simp (disch := omega) only [me_ine, me_hit]
      · simp (disch := omega) only [me_ine, me_hit]; rfl
    · rw [ms_uc_ne q]
      exact (h3 c (by omega)).fr (fun j _ _ => by simp (disch := omega) only [me_ine])
theorem ms_kd {k : Nat} (h : k ≤ 5) : 0 ≤ nI k ∧ nI k ≤ 5 := ⟨nI_pos' (by omega), nI_le (a := k) (b := 5) h (by decide)⟩
theorem mi_csub {M M' : zz_M} (h : me_same (fun q => 1 ≤ q ∧ q < 1 + 28) M M') : me_same mi_cs M M' := h.wk (fun q hq => by unfold mi_cs; omega)
theorem op_candle {M : zz_M} (hI : mi_Inv M) (x1 : Int32) : zw_eq mi_Inv (f_X8_candle 0 x1) (f_X9_candle 129 x1) M := by
  obtain ⟨Z, hO, hC, hD⟩ := hI
  rcases ms_in_nat (x := x1) (l := 0) (h := 5) (a := 0) (b := 5) rfl rfl (by omega) (by omega) with h | ⟨h, k, _, hk, rfl⟩
  · refine mi_find0 (r := -1000000001) 0 (by decide) hO hC hD ?_ (fun M1 hs _ => ?_)
    · simp only [f_X8_candle, e_X8_isKind, h, zz_bd_some, me_wr, me_t0, me_t1, if_true, if_false, e_fi0]
    · simp only [f_X9_candle, e_X9_isKind, h, zz_bd_some, me_wr, me_t0, me_t1, if_true, if_false, e_fs0]
  by_cases hn : Z.1.2.1 = 10
  · refine mi_find0 (r := -1000000002) 1 (by decide) hO hC hD ?_ (fun M1 hs _ => ?_)
    · simp only [f_X8_candle, e_X8_isKind, h, e_X1_full _ hC.1 hn, zz_bd_some, me_wr, me_t0, me_t1, if_true, if_false, e_fi1]
    · simp only [f_X9_candle, e_X9_isKind, h, hs.1, hn, show zz_in (0 : Int32) 440 = true from rfl, show zz_n (0 : Int32) = 0 from rfl, show (nI 10 = (10 : Int32)) = True from eq_true rfl, zz_bd_some, me_wr, me_t0, me_t1, if_true, if_false, e_fs1]
  have hn10 : Z.1.2.1 < 10 := by have := hO.1.2.2.1; omega
  obtain ⟨M1, hM1, hC1, hS1⟩ := e_X1_add (nI k) hC.1 hn10
  have hD1 : ms_SM M1 130 Z.1 := hD.1.fr hO.1.2.2.1 (fun j _ => by rw [hS1.at (by omega)])
  obtain ⟨M2, hM2, hD2, hS2⟩ := e_X9_add (nI k) hD1 hn10 129
  refine mi_shop (r := nI Z.1.2.1) (S := ms_add Z.1 (nI k)) hO hC hD ?_ (mi_csub hS1) hC1 ?_ (mi_ds.mr hS2) hD2 (ms_add_ok hO.1 hn10 (ms_kd hk))
  · have e : zz_i M1 1 2 = nI (Z.1.2.1 + 1) := hC1.2.1
    simp only [f_X8_candle, e_X8_isKind, h, hM1, zz_bd_some, me_wr, me_t0, me_t1, if_true, if_false, e, nI_pred]
  · have e : zz_i M2 130 0 = nI (Z.1.2.1 + 1) := hD2.1
    have e2 : (nI Z.1.2.1 = (10 : Int32)) = False := eq_false (by rw [show (10 : Int32) = nI 10 from rfl, nI_eq (by omega) (by omega)]; exact hn)
    simp only [f_X9_candle, e_X9_isKind, h, hD1.1, show zz_in (0 : Int32) 440 = true from rfl, show zz_n (0 : Int32) = 0 from rfl, e2, hM2, zz_bd_some, me_wr, me_t0, me_t1, if_true, if_false, e, nI_pred]
theorem op_of {M : zz_M} (hI : mi_Inv M) (x1 x2 : Int32) : zw_eq mi_Inv (f_X8_of 0 x1 x2) (f_X9_of 129 x1 x2) M := by
  obtain ⟨Z, hO, hC, hD⟩ := hI
  rcases ms_in_has (x := x1) (n := Z.1.2.1) hO.1.2.2.1 with h | ⟨h, c, hc, rfl⟩
  · refine mi_find0 (r := -1000000001) 0 (by decide) hO hC hD ?_ (fun M1 hs _ => ?_)
    · simp only [f_X8_of, e_X1_has, hC.1.2.1, h, zz_bd_some, me_wr, me_t0, me_t1, if_true, if_false, e_fi0]
    · simp only [f_X9_of, e_X9_isCandle, hs.1, h, zz_bd_some, me_wr, me_t0, me_t1, if_true, if_false, e_fs0]
  have hc10 : c < 10 := by have := hO.1.2.2.1; omega
  have hK := hC.1.2.2 c hc10
  have hM := hD.1.2.2 c hc
  have hzi : zz_in (nI c) 10 = true := me_in hc10 (by decide)
  have hzn : zz_n (nI c) = c := me_n (by omega)
  rcases ms_in_nat (x := x2) (l := 0) (h := 4) (a := 0) (b := 4) rfl rfl (by omega) (by omega) with h2 | ⟨h2, k, _, hk, rfl⟩
  · have ne : ∀ j : Nat, j ≤ 4 → (x2 = nI j) = False := by
      intro j hj
      refine eq_false (fun q => ?_)
      subst q
      rcases ms_in_cases (nI j) 0 4 with ⟨_, q⟩ | ⟨q, _⟩
      · exact q ⟨nI_pos' (by omega), nI_le (a := j) (b := 4) hj (by decide)⟩
      · rw [q] at h2; exact absurd h2 (by decide)
    refine mi_find0 (r := -1000000001) 0 (by decide) hO hC hD ?_ (fun M1 hs _ => ?_)
    · simp only [f_X8_of, e_X1_has, e_X8_within, hC.1.2.1, h, h2, zz_bd_some, me_wr, me_t0, me_t1, if_true, if_false, e_fi0]
    · simp only [f_X9_of, e_X9_isCandle, hs.1, h, show (x2 = (0 : Int32)) = False from ne 0 (by omega), show (x2 = (1 : Int32)) = False from ne 1 (by omega), show (x2 = (2 : Int32)) = False from ne 2 (by omega), show (x2 = (3 : Int32)) = False from ne 3 (by omega), show (x2 = (4 : Int32)) = False from ne 4 (by omega), zz_bd_some, me_wr, me_t0, me_t1, if_true, if_false, e_fs0]
  · rcases (show k = 0 ∨ k = 1 ∨ k = 2 ∨ k = 3 ∨ k = 4 by omega) with rfl | rfl | rfl | rfl | rfl
    · refine mi_ask (r := (Z.1.2.2 c).1) hO hC hD ?_ ?_
      · simp only [f_X8_of, e_X1_has, e_X8_within, hC.1.2.1, h, h2, hzi, hzn, show (nI 0 = (0 : Int32)) = True from eq_true rfl, zz_bd_some, me_wr, me_t0, me_t1, if_true, if_false, e_X0_grams hK, e_X0_minutes hK, hK.1, hK.2.1, hK.2.2.2.1]
      · simp only [f_X9_of, e_X9_isCandle, hD.1.1, h, show (nI 0 = (0 : Int32)) = True from eq_true rfl, zz_bd_some, me_wr, me_t0, me_t1, if_true, if_false, e_X9_kindOf hc10, e_X9_many hc10, (e_X9_grams hc10 hM 129).1, (e_X9_grams hc10 hM 129).2, e_X9_burnsOf hc10 hM, hM.1, hM.2.1]
    · refine mi_ask (r := nI (Z.1.2.2 c).2.length) hO hC hD ?_ ?_
      · simp only [f_X8_of, e_X1_has, e_X8_within, hC.1.2.1, h, h2, hzi, hzn, show (nI 1 = (0 : Int32)) = False from eq_false (by decide), show (nI 1 = (1 : Int32)) = True from eq_true rfl, zz_bd_some, me_wr, me_t0, me_t1, if_true, if_false, e_X0_grams hK, e_X0_minutes hK, hK.1, hK.2.1, hK.2.2.2.1]
      · simp only [f_X9_of, e_X9_isCandle, hD.1.1, h, show (nI 1 = (0 : Int32)) = False from eq_false (by decide), show (nI 1 = (1 : Int32)) = True from eq_true rfl, zz_bd_some, me_wr, me_t0, me_t1, if_true, if_false, e_X9_kindOf hc10, e_X9_many hc10, (e_X9_grams hc10 hM 129).1, (e_X9_grams hc10 hM 129).2, e_X9_burnsOf hc10 hM, hM.1, hM.2.1]
    · refine mi_ask (r := ms_tal (Z.1.2.2 c).2 + ms_wax (Z.1.2.2 c).2) hO hC hD ?_ ?_
      · simp only [f_X8_of, e_X1_has, e_X8_within, hC.1.2.1, h, h2, hzi, hzn, show (nI 2 = (0 : Int32)) = False from eq_false (by decide), show (nI 2 = (1 : Int32)) = False from eq_false (by decide), show (nI 2 = (2 : Int32)) = True from eq_true rfl, zz_bd_some, me_wr, me_t0, me_t1, if_true, if_false, e_X0_grams hK, e_X0_minutes hK, hK.1, hK.2.1, hK.2.2.2.1]
      · simp only [f_X9_of, e_X9_isCandle, hD.1.1, h, show (nI 2 = (0 : Int32)) = False from eq_false (by decide), show (nI 2 = (1 : Int32)) = False from eq_false (by decide), show (nI 2 = (2 : Int32)) = True from eq_true rfl, zz_bd_some, me_wr, me_t0, me_t1, if_true, if_false, e_X9_kindOf hc10, e_X9_many hc10, (e_X9_grams hc10 hM 129).1, (e_X9_grams hc10 hM 129).2, e_X9_burnsOf hc10 hM, hM.1, hM.2.1]
    · refine mi_ask (r := ms_wax (Z.1.2.2 c).2) hO hC hD ?_ ?_
      · simp only [f_X8_of, e_X1_has, e_X8_within, hC.1.2.1, h, h2, hzi, hzn, show (nI 3 = (0 : Int32)) = False from eq_false (by decide), show (nI 3 = (1 : Int32)) = False from eq_false (by decide), show (nI 3 = (2 : Int32)) = False from eq_false (by decide), show (nI 3 = (3 : Int32)) = True from eq_true rfl, zz_bd_some, me_wr, me_t0, me_t1, if_true, if_false, e_X0_grams hK, e_X0_minutes hK, hK.1, hK.2.1, hK.2.2.2.1]
      · simp only [f_X9_of, e_X9_isCandle, hD.1.1, h, show (nI 3 = (0 : Int32)) = False from eq_false (by decide), show (nI 3 = (1 : Int32)) = False from eq_false (by decide), show (nI 3 = (2 : Int32)) = False from eq_false (by decide), show (nI 3 = (3 : Int32)) = True from eq_true rfl, zz_bd_some, me_wr, me_t0, me_t1, if_true, if_false, e_X9_kindOf hc10, e_X9_many hc10, (e_X9_grams hc10 hM 129).1, (e_X9_grams hc10 hM 129).2, e_X9_burnsOf hc10 hM, hM.1, hM.2.1]
    · refine mi_ask (r := ms_mn (Z.1.2.2 c).1 (Z.1.2.2 c).2) hO hC hD ?_ ?_
      · simp only [f_X8_of, e_X1_has, e_X8_within, hC.1.2.1, h, h2, hzi, hzn, show (nI 4 = (0 : Int32)) = False from eq_false (by decide), show (nI 4 = (1 : Int32)) = False from eq_false (by decide), show (nI 4 = (2 : Int32)) = False from eq_false (by decide), show (nI 4 = (3 : Int32)) = False from eq_false (by decide), show (nI 4 = (4 : Int32)) = True from eq_true rfl, zz_bd_some, me_wr, me_t0, me_t1, if_true, if_false, e_X0_grams hK, e_X0_minutes hK, hK.1, hK.2.1, hK.2.2.2.1]
      · simp only [f_X9_of, e_X9_isCandle, hD.1.1, h, show (nI 4 = (0 : Int32)) = False from eq_false (by decide), show (nI 4 = (1 : Int32)) = False from eq_false (by decide), show (nI 4 = (2 : Int32)) = False from eq_false (by decide), show (nI 4 = (3 : Int32)) = False from eq_false (by decide), show (nI 4 = (4 : Int32)) = True from eq_true rfl, zz_bd_some, me_wr, me_t0, me_t1, if_true, if_false, e_X9_kindOf hc10, e_X9_many hc10, (e_X9_grams hc10 hM 129).1, (e_X9_grams hc10 hM 129).2, e_X9_burnsOf hc10 hM, hM.1, hM.2.1]
def ms_get : List Int32 → Nat → Int32
  | [], _ => 0
  | t :: L, i => if i = L.length then t else ms_get L i
theorem ms_RL.at {M : zz_M} {a off : Nat} : ∀ {L : List Int32} {i : Nat}, ms_RL M a off L → i < L.length → zz_i M a (off + i) = ms_get L i
  | [], _, _, h => absurd h (Nat.not_lt_zero _)
  | t :: L, i, h, hi => by
    unfold ms_get
    by_cases q : i = L.length
    · rw [if_pos q, q]; exact h.1
    · rw [if_neg q]
      exact ms_RL.at h.2 (by simp only [List.length_cons] at hi; omega)
theorem op_layer {M : zz_M} (hI : mi_Inv M) (x1 x2 : Int32) : zw_eq mi_Inv (f_X8_layer 0 x1 x2) (f_X9_layer 129 x1 x2) M := by
  obtain ⟨Z, hO, hC, hD⟩ := hI
  rcases ms_in_has (x := x1) (n := Z.1.2.1) hO.1.2.2.1 with h | ⟨h, c, hc, rfl⟩
  · refine mi_find0 (r := -1000000001) 0 (by decide) hO hC hD ?_ (fun M1 hs _ => ?_)
    · simp only [f_X8_layer, e_X1_has, hC.1.2.1, h, zz_bd_some, me_wr, me_t0, me_t1, if_true, if_false, e_fi0]
    · simp only [f_X9_layer, e_X9_isCandle, hs.1, h, zz_bd_some, me_wr, me_t0, me_t1, if_true, if_false, e_fs0]
  have hc10 : c < 10 := by have := hO.1.2.2.1; omega
  have hK := hC.1.2.2 c hc10
  have hM := hD.1.2.2 c hc
  have hl := hM.2.2.2.1
  have hzi : zz_in (nI c) 10 = true := me_in hc10 (by decide)
  have hzn : zz_n (nI c) = c := me_n (by omega)
  by_cases h0 : 0 ≤ x2
  · by_cases h2 : x2 < nI (Z.1.2.2 c).2.length
    · obtain ⟨i, hi, rfl⟩ : ∃ i, i < (Z.1.2.2 c).2.length ∧ x2 = nI i := by
        obtain ⟨i, hi, e⟩ := nI_of (x := x2) (by rw [Int32.not_lt]; exact h0)
        refine ⟨i, ?_, e⟩
        rw [e, nI_ltI hi (by omega)] at h2
        exact h2
      refine mi_ask (r := ms_get (Z.1.2.2 c).2 i) hO hC hD ?_ ?_
      · have e := hK.2.2.2.2.1.at hi
        rw [Nat.zero_add] at e
        simp only [f_X8_layer, e_X1_has, hC.1.2.1, h, h0, hzi, hzn, zz_bd_some, me_wr, me_t0, me_t1, if_true, if_false, hK.2.1, h2, me_zin (show i < 40 by omega) (by decide), me_n (show i < 2 ^ 31 by omega), e]
      · have e := hM.2.2.1.at hi
        have e3 : (nI (Z.1.2.2 c).2.length ≤ nI i) = False := eq_false (nI_ge hi (by omega))
        simp only [f_X9_layer, e_X9_isCandle, hD.1.1, h, h0, zz_bd_some, me_wr, me_t0, me_t1, if_true, if_false, e_X9_many hc10, hM.2.1, e3, e_X9_layerOf hc10 (show i < 40 by omega) rfl, e]
    · refine mi_find0 (r := -1000000004) 3 (by decide) hO hC hD ?_ (fun M1 hs _ => ?_)
      · simp only [f_X8_layer, e_X1_has, hC.1.2.1, h, h0, hzi, hzn, zz_bd_some, me_wr, me_t0, me_t1, if_true, if_false, hK.2.1, h2, e_fi3]
      · have e3 : (nI (Z.1.2.2 c).2.length ≤ x2) = True := eq_true (Int32.not_lt.mp h2)
        simp only [f_X9_layer, e_X9_isCandle, hs.1, h, h0, zz_bd_some, me_wr, me_t0, me_t1, if_true, if_false, e_X9_many hc10, (hs.2.2 c hc).2.1, e3, e_fs3]
  · refine mi_find0 (r := -1000000001) 0 (by decide) hO hC hD ?_ (fun M1 hs _ => ?_)
    · simp only [f_X8_layer, e_X1_has, hC.1.2.1, h, h0, zz_bd_some, me_wr, me_t0, me_t1, if_true, if_false, e_fi0]
    · simp only [f_X9_layer, e_X9_isCandle, hs.1, h, h0, zz_bd_some, me_wr, me_t0, me_t1, if_true, if_false, e_fs0]
theorem op_turn {M : zz_M} (hI : mi_Inv M) (x1 x2 : Int32) : zw_eq mi_Inv (f_X8_turn 0 x1 x2) (f_X9_turn 129 x1 x2) M := by
  obtain ⟨Z, hO, hC, hD⟩ := hI
  rcases ms_in_has (x := x1) (n := Z.1.2.1) hO.1.2.2.1 with h | ⟨h, c, hc, rfl⟩
  · refine mi_find0 (r := -1000000001) 0 (by decide) hO hC hD ?_ (fun M1 hs _ => ?_)
    · simp only [f_X8_turn, e_X1_has, hC.1.2.1, h, zz_bd_some, me_wr, me_t0, me_t1, if_true, if_false, e_fi0]
    · simp only [f_X9_turn, e_X9_isCandle, hs.1, h, zz_bd_some, me_wr, me_t0, me_t1, if_true, if_false, e_fs0]
  rcases ms_in_nat (x := x2) (l := 0) (h := 5) (a := 0) (b := 5) rfl rfl (by omega) (by omega) with h2 | ⟨h2, k, _, hk, rfl⟩
  · refine mi_find0 (r := -1000000001) 0 (by decide) hO hC hD ?_ (fun M1 hs _ => ?_)
    · simp only [f_X8_turn, e_X1_has, hC.1.2.1, h, e_X8_isKind, h2, zz_bd_some, me_wr, me_t0, me_t1, if_true, if_false, e_fi0]
    · simp only [f_X9_turn, e_X9_isCandle, hs.1, h, e_X9_isKind, h2, zz_bd_some, me_wr, me_t0, me_t1, if_true, if_false, e_fs0]
  have hc10 : c < 10 := by have := hO.1.2.2.1; omega
  have hK := hC.1.2.2 c hc10
  have hM := hD.1.2.2 c hc
  have hzi : zz_in (nI c) 10 = true := me_in hc10 (by decide)
  have hzn : zz_n (nI c) = c := me_n (by omega)
  have e0 : me_same (fun q => q = 1 + 7 + 1 + 2 * c) M (zz_si M (1 + 7 + 1 + 2 * c) 0 (nI k)) := me_same.s1
  have e1 : me_same (fun q => q = 1 + 7 + 1 + 2 * c ∨ q = 1 + 7 + 1 + 2 * c + 1 ∨ 1 + 1 ≤ q ∧ q < 1 + 7) M (zz_si M (1 + 7 + 1 + 2 * c) 0 (nI k)) := me_same.si (Or.inl rfl)
  have hD1 : ms_SM (zz_si M (1 + 7 + 1 + 2 * c) 0 (nI k)) 130 Z.1 := hD.1.fr hO.1.2.2.1 (fun j _ => by rw [e1.at (by omega)])
  have e2 : mr_same (fun j => 20 + 42 * c ≤ j ∧ j < 20 + 42 * c + 42 ∨ 1 ≤ j ∧ j < 20) (zz_si M (1 + 7 + 1 + 2 * c) 0 (nI k)) (zz_si (zz_si M (1 + 7 + 1 + 2 * c) 0 (nI k)) 130 (20 + 42 * c) (nI k)) := mr_same.si (by omega)
  refine mi_shop (r := (Z.1.2.2 c).1) (M1 := zz_si M (1 + 7 + 1 + 2 * c) 0 (nI k)) (M2 := zz_si (zz_si M (1 + 7 + 1 + 2 * c) 0 (nI k)) 130 (20 + 42 * c) (nI k)) (S := (Z.1.1, Z.1.2.1, ms_uc Z.1.2.2 c (nI k, (Z.1.2.2 c).2))) hO hC hD ?_ (e1.wk (fun q hq => by unfold mi_cs; omega)) (hC.1.cand hc10 (hC.1.1.fr (fun q _ _ => e0.at (by omega))) (hK.kd _) e1) ?_ (mi_ds.mr e2) ?_ (hO.1.cand hO.1.1 hO.1.2.1 (ms_kd hk))
  · simp only [f_X8_turn, e_X1_has, hC.1.2.1, h, e_X8_isKind, h2, hzi, hzn, zz_bd_some, me_wr, me_t0, me_t1, if_true, if_false, hK.1]
  · simp only [f_X9_turn, e_X9_isCandle, hD1.1, h, e_X9_isKind, h2, zz_bd_some, me_wr, me_t0, me_t1, if_true, if_false, e_X9_kindOf hc10, e_X9_at c 0 (x := 0) rfl, me_zin (show 20 + 42 * c < 440 by omega) (show 440 < 2 ^ 31 by decide), me_n (show 20 + 42 * c < 2 ^ 31 by omega), Nat.add_zero, (hD1.2.2 c hc).1]
  · refine hD1.cand (hD1.2.1.row' (fun j _ _ => me_ine (by omega))) ?_ e2
    obtain ⟨k0, k1, kL, kok⟩ := hD1.2.2 c hc
    exact ⟨me_hit rfl rfl, by rw [me_ine (by omega)]; exact k1, kL.congr (fun j hj => by rw [me_ine (by omega)]), kok⟩
def ms_und (k j : Nat) : Int32 := if j = 0 ∨ j = k ∨ j = 2 ∧ k = 4 ∨ j = 1 ∧ k = 5 then 1 else 0
theorem e_und {k j : Nat} (hk : k ≤ 5) (hj : j ≤ 5) (M : zz_M) : f_X8_isUnder (nI k) (nI j) M = some (ms_und k j, M) ∧ f_X9_isUnder (nI k) (nI j) M = some (ms_und k j, M) := by
  rcases (show k = 0 ∨ k = 1 ∨ k = 2 ∨ k = 3 ∨ k = 4 ∨ k = 5 by omega) with rfl | rfl | rfl | rfl | rfl | rfl <;>
  rcases (show j = 0 ∨ j = 1 ∨ j = 2 ∨ j = 3 ∨ j = 4 ∨ j = 5 by omega) with rfl | rfl | rfl | rfl | rfl | rfl <;> exact ⟨rfl, rfl⟩
theorem op_as {M : zz_M} (hI : mi_Inv M) (x1 x2 : Int32) : zw_eq mi_Inv (f_X8_as 0 x1 x2) (f_X9_as 129 x1 x2) M := by
  obtain ⟨Z, hO, hC, hD⟩ := hI
  rcases ms_in_has (x := x1) (n := Z.1.2.1) hO.1.2.2.1 with h | ⟨h, c, hc, rfl⟩
  · refine mi_find0 (r := -1000000001) 0 (by decide) hO hC hD ?_ (fun M1 hs _ => ?_)
    · simp only [f_X8_as, e_X1_has, hC.1.2.1, h, zz_bd_some, me_wr, me_t0, me_t1, if_true, if_false, e_fi0]
    · simp only [f_X9_as, e_X9_isCandle, hs.1, h, zz_bd_some, me_wr, me_t0, me_t1, if_true, if_false, e_fs0]
  rcases ms_in_nat (x := x2) (l := 0) (h := 5) (a := 0) (b := 5) rfl rfl (by omega) (by omega) with h2 | ⟨h2, j, _, hj, rfl⟩
  · refine mi_find0 (r := -1000000001) 0 (by decide) hO hC hD ?_ (fun M1 hs _ => ?_)
    · simp only [f_X8_as, e_X1_has, hC.1.2.1, h, e_X8_isKind, h2, zz_bd_some, me_wr, me_t0, me_t1, if_true, if_false, e_fi0]
    · simp only [f_X9_as, e_X9_isCandle, hs.1, h, e_X9_isKind, h2, zz_bd_some, me_wr, me_t0, me_t1, if_true, if_false, e_fs0]
  have hc10 : c < 10 := by have := hO.1.2.2.1; omega
  have hK := hC.1.2.2 c hc10
  have hM := hD.1.2.2 c hc
  have hzi : zz_in (nI c) 10 = true := me_in hc10 (by decide)
  have hzn : zz_n (nI c) = c := me_n (by omega)
  obtain ⟨k, hk, ek⟩ : ∃ k, k ≤ 5 ∧ (Z.1.2.2 c).1 = nI k := by
    have hb := hO.1.2.2.2 c hc10
    exact nI_of2 (M := 5) (n := 5) (by decide) (by rw [Int32.not_lt]; exact hb.1) hb.2
  by_cases hu : ms_und k j = 0
  · refine mi_find0 (r := -1000000003) 2 (by decide) hO hC hD ?_ (fun M1 hs _ => ?_)
    · simp only [f_X8_as, e_X1_has, hC.1.2.1, h, e_X8_isKind, h2, hzi, hzn, zz_bd_some, me_wr, me_t0, me_t1, if_true, if_false, hK.1, ek, (e_und hk hj _).1, hu, e_fi2]
    · simp only [f_X9_as, e_X9_isCandle, hs.1, h, e_X9_isKind, h2, zz_bd_some, me_wr, me_t0, me_t1, if_true, if_false, e_X9_kindOf hc10, (hs.2.2 c hc).1, ek, (e_und hk hj _).2, hu, e_fs2]
  · refine mi_ask (r := ms_mn (Z.1.2.2 c).1 (Z.1.2.2 c).2) hO hC hD ?_ ?_
    · simp only [f_X8_as, e_X1_has, hC.1.2.1, h, e_X8_isKind, h2, hzi, hzn, zz_bd_some, me_wr, me_t0, me_t1, if_true, if_false, hK.1]
      simp only [ek, (e_und hk hj _).1, hu, zz_bd_some, me_wr, me_t0, me_t1, if_true, if_false]
      rw [← ek, e_X0_minutes hK, zz_bd_some]
    · simp only [f_X9_as, e_X9_isCandle, hD.1.1, h, e_X9_isKind, h2, zz_bd_some, me_wr, me_t0, me_t1, if_true, if_false, e_X9_kindOf hc10, hM.1]
      simp only [ek, (e_und hk hj _).2, hu, zz_bd_some, me_wr, me_t0, me_t1, if_true, if_false]
      rw [← ek, e_X9_burnsOf hc10 hM, zz_bd_some]
theorem op_takes {M : zz_M} (hI : mi_Inv M) (x1 x2 : Int32) : zw_eq mi_Inv (f_X8_takes 0 x1 x2) (f_X9_takes 129 x1 x2) M := by
  obtain ⟨Z, hO, hC, hD⟩ := hI
  rcases ms_in_has (x := x1) (n := Z.1.2.1) hO.1.2.2.1 with h | ⟨h, c, hc, rfl⟩
  · refine mi_find0 (r := -1000000001) 0 (by decide) hO hC hD ?_ (fun M1 hs _ => ?_)
    · simp only [f_X8_takes, e_X1_has, hC.1.2.1, h, zz_bd_some, me_wr, me_t0, me_t1, if_true, if_false, e_fi0]
    · simp only [f_X9_takes, e_X9_isCandle, hs.1, h, zz_bd_some, me_wr, me_t0, me_t1, if_true, if_false, e_fs0]
  rcases ms_in_nat (x := x2) (l := 0) (h := 3) (a := 0) (b := 3) rfl rfl (by omega) (by omega) with h2 | ⟨h2, v, _, hv, rfl⟩
  · refine mi_find0 (r := -1000000001) 0 (by decide) hO hC hD ?_ (fun M1 hs _ => ?_)
    · simp only [f_X8_takes, e_X1_has, hC.1.2.1, h, e_X8_isVat, h2, zz_bd_some, me_wr, me_t0, me_t1, if_true, if_false, e_fi0]
    · simp only [f_X9_takes, e_X9_isCandle, hs.1, h, e_X9_isVat, h2, zz_bd_some, me_wr, me_t0, me_t1, if_true, if_false, e_fs0]
  have hc10 : c < 10 := by have := hO.1.2.2.1; omega
  have hK := hC.1.2.2 c hc10
  have hM := hD.1.2.2 c hc
  have hzi : zz_in (nI c) 10 = true := me_in hc10 (by decide)
  have hzn : zz_n (nI c) = c := me_n (by omega)
  have hv4 : v < 4 := by omega
  have hvi : zz_in (nI v) 4 = true := me_in hv4 (by decide)
  have hvn : zz_n (nI v) = v := me_n (by omega)
  refine mi_ask (r := ms_gain (Z.1.2.2 c).1 (nI (Z.1.2.2 c).2.length) (Z.1.1 (4 + 4 * v + 1))) hO hC hD ?_ ?_
  · simp only [f_X8_takes, e_X1_has, hC.1.2.1, h, e_X8_isVat, h2, hzi, hzn, hvi, hvn, ms_v4, hC.1.1.2.2.2 v hv4 1 (by omega), e_X0_gain, zz_bd_some, me_wr, me_t0, me_t1, if_true, if_false, hK.1, hK.2.1]
  · simp only [f_X9_takes, e_X9_isCandle, hD.1.1, h, e_X9_isVat, h2, zz_bd_some, me_wr, me_t0, me_t1, if_true, if_false, e_X9_its hv4 (show 1 < 4 by omega) (show (1 : Int32) = nI 1 from rfl), hD.1.2.1 (4 + 4 * v + 1) (by omega) (by omega), e_X9_takesAt hc10, hM.1, hM.2.1]
theorem op_dip {M : zz_M} (hI : mi_Inv M) (x1 x2 : Int32) : zw_eq mi_Inv (f_X8_dip 0 x1 x2) (f_X9_dip 129 x1 x2) M := by
  obtain ⟨Z, hO, hC, hD⟩ := hI
  rcases ms_in_has (x := x1) (n := Z.1.2.1) hO.1.2.2.1 with h | ⟨h, c, hc, rfl⟩
  · refine mi_find0 (r := -1000000001) 0 (by decide) hO hC hD ?_ (fun M1 hs _ => ?_)
    · simp only [f_X8_dip, e_X1_has, hC.1.2.1, h, zz_bd_some, me_wr, me_t0, me_t1, if_true, if_false, e_fi0]
    · simp only [f_X9_dip, e_X9_isCandle, hs.1, h, zz_bd_some, me_wr, me_t0, me_t1, if_true, if_false, e_fs0]
  rcases ms_in_nat (x := x2) (l := 0) (h := 3) (a := 0) (b := 3) rfl rfl (by omega) (by omega) with h2 | ⟨h2, v, _, hv, rfl⟩
  · refine mi_find0 (r := -1000000001) 0 (by decide) hO hC hD ?_ (fun M1 hs _ => ?_)
    · simp only [f_X8_dip, e_X1_has, hC.1.2.1, h, e_X8_isVat, h2, zz_bd_some, me_wr, me_t0, me_t1, if_true, if_false, e_fi0]
    · simp only [f_X9_dip, e_X9_isCandle, hs.1, h, e_X9_isVat, h2, zz_bd_some, me_wr, me_t0, me_t1, if_true, if_false, e_fs0]
  have hc10 : c < 10 := by have := hO.1.2.2.1; omega
  have hK := hC.1.2.2 c hc10
  have hM := hD.1.2.2 c hc
  have hzi : zz_in (nI c) 10 = true := me_in hc10 (by decide)
  have hzn : zz_n (nI c) = c := me_n (by omega)
  have hv4 : v < 4 := by omega
  have hvi : zz_in (nI v) 4 = true := me_in hv4 (by decide)
  have hvn : zz_n (nI v) = v := me_n (by omega)
  have hl := hM.2.2.2.1
  by_cases h40 : (Z.1.2.2 c).2.length = 40
  · refine mi_find0 (r := -1000000005) 4 (by decide) hO hC hD ?_ (fun M1 hs _ => ?_)
    · simp only [f_X8_dip, e_X1_has, hC.1.2.1, h, e_X8_isVat, h2, hzi, hzn, zz_bd_some, me_wr, me_t0, me_t1, if_true, if_false, e_X0_isThick hK.2.1 hl, h40, e_fi4]
    · simp only [f_X9_dip, e_X9_isCandle, hs.1, h, e_X9_isVat, h2, zz_bd_some, me_wr, me_t0, me_t1, if_true, if_false, e_X9_many hc10, (hs.2.2 c hc).2.1, h40, show (nI 40 = (40 : Int32)) = True from eq_true rfl, e_fs4]
  · have hX : ms_okX ((Z.1.2.2 c).2, Z.1.1) := ⟨hM.2.2.2, hO.1.1⟩
    obtain ⟨M1, hM1, hK1, hR1, hS1⟩ := e_X0_dv (X := ((Z.1.2.2 c).2, Z.1.1)) hv4 hK hC.1.1 hX (by omega)
    have hD1 : ms_SM M1 130 Z.1 := hD.1.fr hO.1.2.2.1 (fun j _ => by rw [hS1.at (by omega)])
    obtain ⟨M2, hM2, hK2, hR2, hS2⟩ := e_X9_dv (X := ((Z.1.2.2 c).2, Z.1.1)) hc10 hv4 (hD1.2.2 c hc) hD1.2.1 hX 129
    have hok' := ms_dv_ok (kd := (Z.1.2.2 c).1) hv4 hX
    have e40 : (nI (Z.1.2.2 c).2.length = (40 : Int32)) = False := eq_false (by rw [show (40 : Int32) = nI 40 from rfl, nI_eq (by omega) (by omega)]; exact h40)
    refine mi_shop (M1 := M1) (M2 := M2) (r := ms_tal (ms_dv (Z.1.2.2 c).1 ((Z.1.2.2 c).2, Z.1.1) v).1 + ms_wax (ms_dv (Z.1.2.2 c).1 ((Z.1.2.2 c).2, Z.1.1) v).1) (S := ((ms_dv (Z.1.2.2 c).1 ((Z.1.2.2 c).2, Z.1.1) v).2, Z.1.2.1, ms_uc Z.1.2.2 c ((Z.1.2.2 c).1, (ms_dv (Z.1.2.2 c).1 ((Z.1.2.2 c).2, Z.1.1) v).1))) hO hC hD ?_ (hS1.wk (fun q hq => by unfold mi_cs; omega)) (hC.1.cand hc10 hR1 hK1 (hS1.wk (fun q hq => by omega))) ?_ (mi_ds.mr hS2) (hD1.cand hR2 hK2 (hS2.wk (fun j hj => by omega))) (hO.1.cand hok'.2 (by unfold ms_dv; simp only; rw [ms_u_ne (by omega), ms_u_ne (by omega)]; exact hO.1.2.1) (hO.1.2.2.2 c hc10))
    · simp only [f_X8_dip, e_X1_has, hC.1.2.1, h, e_X8_isVat, h2, hzi, hzn, hvi, hvn, zz_bd_some, me_wr, me_t0, me_t1, if_true, if_false, e_X0_isThick hK.2.1 hl, h40, ms_v4, hM1, e_X0_grams hK1]
    · simp only [f_X9_dip, e_X9_isCandle, hD1.1, h, e_X9_isVat, h2, zz_bd_some, me_wr, me_t0, me_t1, if_true, if_false, e_X9_many hc10, (hD1.2.2 c hc).2.1, e40, hM2, (e_X9_grams hc10 hK2 129).1]
theorem ms_tw {L : List Int32} (h : ms_Lok L) : ∃ m : Nat, m ≤ 100 * L.length ∧ ms_tal L + ms_wax L = nI m := by
  induction L with
  | nil => exact ⟨0, by simp, by decide⟩
  | cons t L ih =>
    obtain ⟨m, hm, e⟩ := ih h.tail
    obtain ⟨s, s0, s1, hs⟩ := h.head.nat
    refine ⟨s + m, by simp only [List.length_cons]; omega, ?_⟩
    rw [← nI_add, ← hs, ← e, ms_tal, ms_wax, ms_abs]
    split <;> grind
