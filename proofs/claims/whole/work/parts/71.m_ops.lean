/-! The calls that ask and set. -/
theorem e_part {M : zz_M} {r v k : Nat} {V : Nat → Int32} (hR : ms_RV M r V) (hok : ms_okV V) (hv : v < 4) (hk : k < 4) : f_X6_part (r + 2 + v) (nI k) M = some (V (4 + 4 * v + k), M) := by
  have h := hR.2.2.2 v hv k hk
  have hV := hok.2.2 v hv
  unfold f_X6_part
  rcases (show k = 0 ∨ k = 1 ∨ k = 2 ∨ k = 3 by omega) with rfl | rfl | rfl | rfl
  · rw [if_pos (by decide), h]
    rcases hV.1.1 with z | z
    · rw [Nat.add_zero, z, if_pos rfl]
    · rw [Nat.add_zero, z, if_neg (by decide)]
  · rw [if_neg (by decide), if_pos (by decide), h]
  · rw [if_neg (by decide), if_neg (by decide), if_pos (by decide), h]
  · rw [if_neg (by decide), if_neg (by decide), if_neg (by decide), h]
    rcases hV.2 with z | z
    · rw [z, if_pos rfl]
    · rw [z, if_neg (by decide)]
theorem e_setPart {M : zz_M} {b k : Nat} {x : Int32} (hk : k < 4) (hx : k = 0 ∨ k = 3 → x = 0 ∨ x = 1) : f_X6_setPart b (nI k) x M = some ((), zz_si M b k x) := by
  unfold f_X6_setPart b_X6_setPart_39
  rcases (show k = 0 ∨ k = 1 ∨ k = 2 ∨ k = 3 by omega) with rfl | rfl | rfl | rfl
  · rw [if_pos (by decide)]
    rcases hx (Or.inl rfl) with z | z
    · subst z; rfl
    · subst z; rfl
  · rw [if_neg (by decide), if_pos (by decide), me_wr]
  · rw [if_neg (by decide), if_neg (by decide), if_pos (by decide), me_wr]
  · rw [if_neg (by decide), if_neg (by decide), if_neg (by decide)]
    rcases hx (Or.inr rfl) with z | z
    · subst z; rfl
    · subst z; rfl
theorem ms_v4 (v : Nat) : 1 + 1 + 1 + 1 + v = 1 + 1 + 2 + v := by omega
/-- a number of a vat may become x -/
def ms_may (k : Nat) (x : Int32) : Prop := 0 ≤ x ∧ x ≤ (if k = 1 then 99 else if k = 2 then 99999 else 1)
theorem ms_01 {x : Int32} (h0 : 0 ≤ x) (h1 : x ≤ 1) : x = 0 ∨ x = 1 := by grind
theorem ms_okV.set {V : Nat → Int32} {v k : Nat} {x : Int32} (h : ms_okV V) (hv : v < 4) (hk : k < 4) (hx : ms_may k x) : ms_okV (ms_u V (4 + 4 * v + k) x) := by
  obtain ⟨h1, h2, h3⟩ := h
  refine ⟨by rw [ms_u_ne (by omega)]; exact h1, by rw [ms_u_ne (by omega)]; exact h2, fun u hu => ?_⟩
  have g := h3 u hu
  by_cases e : u = v
  · subst e
    obtain ⟨⟨g1, g2, g3, g4, g5⟩, g6⟩ := g
    rcases (show k = 0 ∨ k = 1 ∨ k = 2 ∨ k = 3 by omega) with rfl | rfl | rfl | rfl
    · rw [show 4 + 4 * u + 0 = 4 + 4 * u from rfl, ms_u_hit (q := 4 + 4 * u) rfl, ms_u_ne (q := 4 + 4 * u + 1) (by omega), ms_u_ne (q := 4 + 4 * u + 2) (by omega), ms_u_ne (q := 4 + 4 * u + 3) (by omega)]
      exact ⟨⟨ms_01 hx.1 hx.2, g2, g3, g4, g5⟩, g6⟩
    · rw [ms_u_ne (q := 4 + 4 * u) (by omega), ms_u_hit (q := 4 + 4 * u + 1) rfl, ms_u_ne (q := 4 + 4 * u + 2) (by omega), ms_u_ne (q := 4 + 4 * u + 3) (by omega)]
      exact ⟨⟨g1, hx.1, hx.2, g4, g5⟩, g6⟩
    · rw [ms_u_ne (q := 4 + 4 * u) (by omega), ms_u_ne (q := 4 + 4 * u + 1) (by omega), ms_u_hit (q := 4 + 4 * u + 2) rfl, ms_u_ne (q := 4 + 4 * u + 3) (by omega)]
      exact ⟨⟨g1, g2, g3, hx.1, hx.2⟩, g6⟩
    · rw [ms_u_ne (q := 4 + 4 * u) (by omega), ms_u_ne (q := 4 + 4 * u + 1) (by omega), ms_u_ne (q := 4 + 4 * u + 2) (by omega), ms_u_hit (q := 4 + 4 * u + 3) rfl]
      exact ⟨⟨g1, g2, g3, g4, g5⟩, ms_01 hx.1 hx.2⟩
  · rw [ms_u_ne (q := 4 + 4 * u) (by omega), ms_u_ne (q := 4 + 4 * u + 1) (by omega), ms_u_ne (q := 4 + 4 * u + 2) (by omega), ms_u_ne (q := 4 + 4 * u + 3) (by omega)]
    exact g
/-- the vats of a shop become others -/
theorem ms_SC.vats {M M' : zz_M} {a : Nat} {S : ms_S} {V : Nat → Int32} (h : ms_SC M a S) (hR : ms_RV M' (a + 1) V) (e : me_same (fun q => a + 1 ≤ q ∧ q < a + 7) M M') : ms_SC M' a (V, S.2) := by
  obtain ⟨h1, h2, h3⟩ := h
  exact ⟨hR, by rw [e.at (by omega)]; exact h2, fun c hc => (h3 c hc).fr (e.at (by omega)) (e.at (by omega))⟩
theorem ms_SM.vats {M M' : zz_M} {S : ms_S} {V : Nat → Int32} (h : ms_SM M 130 S) (hR : ms_RW M' 130 V) (e : mr_same (fun j => 1 ≤ j ∧ j < 20) M M') : ms_SM M' 130 (V, S.2) := by
  obtain ⟨h1, h2, h3⟩ := h
  exact ⟨by rw [e.at (by omega)]; exact h1, hR, fun c hc => (h3 c hc).fr (fun j _ _ => e.at (by omega))⟩
theorem mi_ds.mr {P : Nat → Prop} {M M' : zz_M} (h : mr_same P M M') : mi_ds M M' := mi_ds.of h.1 (fun q hq => Or.inl hq)
theorem ms_okS.vats {S : ms_S} {V : Nat → Int32} (h : ms_okS S) (hV : ms_okV V) (h3 : 0 ≤ V 3 ∧ V 3 ≤ 9999) : ms_okS (V, S.2) := ⟨hV, h3, h.2.2⟩

theorem op_vatOf {M : zz_M} (hI : mi_Inv M) (x1 x2 : Int32) : zw_eq mi_Inv (f_X8_vatOf 0 x1 x2) (f_X9_vatOf 129 x1 x2) M := by
  obtain ⟨Z, hO, hC, hD⟩ := hI
  rcases ms_in_nat (x := x1) (l := 0) (h := 3) (a := 0) (b := 3) rfl rfl (by omega) (by omega) with h | ⟨h, v, _, hv, rfl⟩
  · refine mi_find0 (r := -1000000001) 0 (by decide) hO hC hD ?_ (fun M1 hs _ => ?_)
    · simp only [f_X8_vatOf, e_X8_isVat, h, zz_bd_some, me_wr, me_t0, me_t1, if_true, if_false, e_fi0]
    · simp only [f_X9_vatOf, e_X9_isVat, h, zz_bd_some, me_wr, me_t0, me_t1, if_true, if_false, e_fs0]
  rcases ms_in_nat (x := x2) (l := 0) (h := 3) (a := 0) (b := 3) rfl rfl (by omega) (by omega) with h2 | ⟨h2, k, _, hk, rfl⟩
  · refine mi_find0 (r := -1000000001) 0 (by decide) hO hC hD ?_ (fun M1 hs _ => ?_)
    · simp only [f_X8_vatOf, e_X8_isVat, e_X8_within, h, h2, zz_bd_some, me_wr, me_t0, me_t1, if_true, if_false, e_fi0]
    · simp only [f_X9_vatOf, e_X9_isVat, e_X9_in, h, h2, zz_bd_some, me_wr, me_t0, me_t1, if_true, if_false, e_fs0]
  refine mi_ask (r := Z.1.1 (4 + 4 * v + k)) hO hC hD ?_ ?_
  · simp only [f_X8_vatOf, e_X8_isVat, e_X8_within, h, h2, zz_bd_some, me_wr, me_t0, me_t1, if_true, if_false, me_zin (show v < 4 by omega) (by decide), me_n (show v < 2 ^ 31 by omega), ms_v4, e_part hC.1.1 hO.1.1 (show v < 4 by omega) (show k < 4 by omega)]
  · simp only [f_X9_vatOf, e_X9_isVat, e_X9_in, h, h2, zz_bd_some, me_wr, me_t0, me_t1, if_true, if_false, e_X9_its (show v < 4 by omega) (show k < 4 by omega) rfl, hD.1.2.1 (4 + 4 * v + k) (by omega) (by omega)]
theorem ms_told {k : Nat} (hk : k < 4) (x : Int32) (M : zz_M) : f_X9_isTold (nI k) x M = some (ms_in x 0 (zz_mov.getD k 0), M) := by
  unfold f_X9_isTold
  rcases (show k = 0 ∨ k = 1 ∨ k = 2 ∨ k = 3 by omega) with rfl | rfl | rfl | rfl
  · rw [if_pos (by decide), e_X9_in, zz_bd_some, if_pos (ms_in_bit _ _ _)]; rfl
  · rw [if_neg (by decide), if_pos (by decide), e_X9_in, zz_bd_some, if_pos (ms_in_bit _ _ _)]; rfl
  · rw [if_neg (by decide), if_neg (by decide), if_pos (by decide), e_X9_in, zz_bd_some, if_pos (ms_in_bit _ _ _)]; rfl
  · rw [if_neg (by decide), if_neg (by decide), if_neg (by decide), if_pos (by decide), e_X9_in, zz_bd_some, if_pos (ms_in_bit _ _ _)]; rfl
theorem ms_told0 {y : Int32} (h : ms_in y 0 3 = 0) (x : Int32) (M : zz_M) : f_X9_isTold y x M = some (0, M) := by
  have e : ¬ (0 ≤ y ∧ y ≤ 3) := by
    rcases ms_in_cases y 0 3 with ⟨_, q⟩ | ⟨q, _⟩
    · exact q
    · rw [q] at h; exact absurd h (by decide)
  unfold f_X9_isTold
  rw [if_neg (by grind), if_neg (by grind), if_neg (by grind), if_neg (by grind)]
theorem ms_mov {k : Nat} (hk : k < 4) : zz_mov.getD k 0 = (if k = 1 then 99 else if k = 2 then 99999 else 1) := by
  rcases (show k = 0 ∨ k = 1 ∨ k = 2 ∨ k = 3 by omega) with rfl | rfl | rfl | rfl <;> rfl
theorem op_vat {M : zz_M} (hI : mi_Inv M) (x1 x2 x3 : Int32) : zw_eq mi_Inv (f_X8_vat 0 x1 x2 x3) (f_X9_vat 129 x1 x2 x3) M := by
  obtain ⟨Z, hO, hC, hD⟩ := hI
  rcases ms_in_nat (x := x1) (l := 0) (h := 3) (a := 0) (b := 3) rfl rfl (by omega) (by omega) with h | ⟨h, v, _, hv, rfl⟩
  · refine mi_find0 (r := -1000000001) 0 (by decide) hO hC hD ?_ (fun M1 hs _ => ?_)
    · simp only [f_X8_vat, e_X8_isVat, h, zz_bd_some, me_wr, me_t0, me_t1, if_true, if_false, e_fi0]
    · simp only [f_X9_vat, e_X9_isVat, h, zz_bd_some, me_wr, me_t0, me_t1, if_true, if_false, e_fs0]
  rcases ms_in_nat (x := x2) (l := 0) (h := 3) (a := 0) (b := 3) rfl rfl (by omega) (by omega) with h2 | ⟨h2, k, _, hk, rfl⟩
  · refine mi_find0 (r := -1000000001) 0 (by decide) hO hC hD ?_ (fun M1 hs _ => ?_)
    · simp only [f_X8_vat, e_X8_isVat, e_X8_within, h, h2, zz_bd_some, me_wr, me_t0, me_t1, if_true, if_false, e_fi0]
    · simp only [f_X9_vat, e_X9_isVat, ms_told0 h2, h, zz_bd_some, me_wr, me_t0, me_t1, if_true, if_false, e_fs0]
  have hv4 : v < 4 := by omega
  have hk4 : k < 4 := by omega
  rcases ms_in_cases x3 0 (zz_mov.getD k 0) with ⟨h3, -⟩ | ⟨h3, g1, g2⟩
  · refine mi_find0 (r := -1000000001) 0 (by decide) hO hC hD ?_ (fun M1 hs _ => ?_)
    · simp only [f_X8_vat, e_X8_isVat, e_X8_within, h, h2, me_zin hk4 (by decide), me_n (show k < 2 ^ 31 by omega), h3, zz_bd_some, me_wr, me_t0, me_t1, if_true, if_false, e_fi0]
    · simp only [f_X9_vat, e_X9_isVat, h, ms_told hk4, h3, zz_bd_some, me_wr, me_t0, me_t1, if_true, if_false, e_fs0]
  rw [ms_mov hk4] at g2
  have h01 : k = 0 ∨ k = 3 → x3 = 0 ∨ x3 = 1 := by
    intro q
    rcases q with rfl | rfl <;> exact ms_01 g1 g2
  refine mi_shop (r := Z.1.1 (4 + 4 * v + k)) (M1 := zz_si M (1 + 1 + 2 + v) k x3) (M2 := zz_si (zz_si M (1 + 1 + 2 + v) k x3) 130 (4 + 4 * v + k) x3) (S := (ms_u Z.1.1 (4 + 4 * v + k) x3, Z.1.2)) hO hC hD ?_ (me_same.si (by unfold mi_cs; omega)) (hC.1.vats (hC.1.1.u x3 hv4 hk4) (me_same.si (by omega))) ?_ (mi_ds.mr (mr_same.si (P := fun j => 1 ≤ j ∧ j < 20) (by omega))) ?_ (hO.1.vats (hO.1.1.set hv4 hk4 ⟨g1, g2⟩) (by rw [ms_u_ne (by omega)]; exact hO.1.2.1))
  · simp only [f_X8_vat, e_X8_isVat, e_X8_within, h, h2, h3, zz_bd_some, me_wr, me_t0, me_t1, if_true, if_false, me_zin hv4 (show 4 < 2 ^ 31 by decide), me_zin hk4 (show 4 < 2 ^ 31 by decide), me_n (show v < 2 ^ 31 by omega), me_n (show k < 2 ^ 31 by omega), ms_v4, e_part hC.1.1 hO.1.1 hv4 hk4, e_setPart hk4 h01]
  · simp (disch := omega) only [f_X9_vat, e_X9_isVat, h, ms_told hk4, h3, zz_bd_some, me_wr, me_t0, me_t1, if_true, if_false, e_X9_its hv4 hk4 rfl, e_X9_setVat hv4 hk4 rfl, me_ine, hD.1.2.1 (4 + 4 * v + k) (by omega) (by omega)]
  · have e0 : ms_SM (zz_si M (1 + 1 + 2 + v) k x3) 130 Z.1 := hD.1.fr hO.1.2.2.1 (fun j _ => me_ine (by omega))
    exact e0.vats (e0.2.1.u x3) (mr_same.si (by omega))
theorem ms_okV.let1 {V : Nat → Int32} {x : Int32} (h : ms_okV V) (hx : 0 ≤ x ∧ x ≤ 9999) : ms_okV (ms_u V 1 x) := by
  obtain ⟨h1, h2, h3⟩ := h
  refine ⟨by rw [ms_u_hit rfl]; exact hx, by rw [ms_u_ne (by omega)]; exact h2, fun u hu => ?_⟩
  rw [ms_u_ne (q := 4 + 4 * u) (by omega), ms_u_ne (q := 4 + 4 * u + 1) (by omega), ms_u_ne (q := 4 + 4 * u + 2) (by omega), ms_u_ne (q := 4 + 4 * u + 3) (by omega)]
  exact h3 u hu
theorem ms_okV.let2 {V : Nat → Int32} {x : Int32} (h : ms_okV V) (hx : 0 ≤ x ∧ x ≤ 9) : ms_okV (ms_u V 2 x) := by
  obtain ⟨h1, h2, h3⟩ := h
  refine ⟨by rw [ms_u_ne (by omega)]; exact h1, by rw [ms_u_hit rfl]; exact hx, fun u hu => ?_⟩
  rw [ms_u_ne (q := 4 + 4 * u) (by omega), ms_u_ne (q := 4 + 4 * u + 1) (by omega), ms_u_ne (q := 4 + 4 * u + 2) (by omega), ms_u_ne (q := 4 + 4 * u + 3) (by omega)]
  exact h3 u hu
theorem op_let {M : zz_M} (hI : mi_Inv M) (x1 x2 : Int32) : zw_eq mi_Inv (f_X8_let 0 x1 x2) (f_X9_let 129 x1 x2) M := by
  obtain ⟨Z, hO, hC, hD⟩ := hI
  by_cases q0 : x1 = 0
  · subst q0
    have hw : ms_in 0 0 1 = 1 := by decide
    rcases ms_in_cases x2 0 9999 with ⟨h3, -⟩ | ⟨h3, g1, g2⟩
    · refine mi_find0 (r := -1000000001) 0 (by decide) hO hC hD ?_ (fun M1 hs _ => ?_)
      · simp only [f_X8_let, b_X8_let_23, e_X8_within, hw, h3, zz_bd_some, me_wr, me_t0, me_t1, if_true, if_false, e_fi0]
      · simp only [f_X9_let, e_X9_in, h3, zz_bd_some, me_wr, me_t0, me_t1, if_true, if_false, e_fs0]
    · refine mi_shop (r := Z.1.1 1) (M1 := zz_si M (1 + 1) 1 x2) (M2 := zz_si (zz_si M (1 + 1) 1 x2) 130 1 x2) (S := (ms_u Z.1.1 1 x2, Z.1.2)) hO hC hD ?_ (me_same.si (by unfold mi_cs; omega)) (hC.1.vats (hC.1.1.u0 x2 (by omega)) (me_same.si (by omega))) ?_ (mi_ds.mr (mr_same.si (P := fun j => 1 ≤ j ∧ j < 20) (by omega))) ?_ (hO.1.vats (hO.1.1.let1 ⟨g1, g2⟩) (by rw [ms_u_ne (by omega)]; exact hO.1.2.1))
      · simp only [f_X8_let, b_X8_let_23, e_X8_within, hw, h3, zz_bd_some, me_wr, me_t0, me_t1, if_true, if_false, hC.1.1.1]
      · simp (disch := omega) only [f_X9_let, b_X9_let_40, e_X9_in, h3, zz_bd_some, me_wr, me_t0, me_t1, if_true, if_false, show zz_in ((1 : Int32) + 0) 440 = true from rfl, show zz_n ((1 : Int32) + 0) = 1 from rfl, me_ine, hD.1.2.1 1 (by omega) (by omega)]
      · have e0 : ms_SM (zz_si M (1 + 1) 1 x2) 130 Z.1 := hD.1.fr hO.1.2.2.1 (fun j _ => me_ine (by omega))
        exact e0.vats (e0.2.1.u x2) (mr_same.si (by omega))
  · by_cases q1 : x1 = 1
    · subst q1
      have hw : ms_in 1 0 1 = 1 := by decide
      have hn : ((1 : Int32) = 0) = False := me_t1
      rcases ms_in_cases x2 0 9 with ⟨h3, -⟩ | ⟨h3, g1, g2⟩
      · refine mi_find0 (r := -1000000001) 0 (by decide) hO hC hD ?_ (fun M1 hs _ => ?_)
        · simp only [f_X8_let, b_X8_let_23, e_X8_within, hw, h3, zz_bd_some, me_wr, me_t0, me_t1, if_true, if_false, e_fi0]
        · simp only [f_X9_let, e_X9_in, h3, zz_bd_some, me_wr, me_t0, me_t1, if_true, if_false, e_fs0]
      · refine mi_shop (r := Z.1.1 2) (M1 := zz_si M (1 + 1) 2 x2) (M2 := zz_si (zz_si M (1 + 1) 2 x2) 130 2 x2) (S := (ms_u Z.1.1 2 x2, Z.1.2)) hO hC hD ?_ (me_same.si (by unfold mi_cs; omega)) (hC.1.vats (hC.1.1.u0 x2 (by omega)) (me_same.si (by omega))) ?_ (mi_ds.mr (mr_same.si (P := fun j => 1 ≤ j ∧ j < 20) (by omega))) ?_ (hO.1.vats (hO.1.1.let2 ⟨g1, g2⟩) (by rw [ms_u_ne (by omega)]; exact hO.1.2.1))
        · simp only [f_X8_let, b_X8_let_23, e_X8_within, hw, h3, zz_bd_some, me_wr, me_t0, me_t1, if_true, if_false, hC.1.1.2.1]
        · simp (disch := omega) only [f_X9_let, b_X9_let_40, e_X9_in, h3, zz_bd_some, me_wr, me_t0, me_t1, if_true, if_false, show zz_in ((1 : Int32) + 1) 440 = true from rfl, show zz_n ((1 : Int32) + 1) = 2 from rfl, me_ine, hD.1.2.1 2 (by omega) (by omega)]
        · have e0 : ms_SM (zz_si M (1 + 1) 2 x2) 130 Z.1 := hD.1.fr hO.1.2.2.1 (fun j _ => me_ine (by omega))
          exact e0.vats (e0.2.1.u x2) (mr_same.si (by omega))
    · have hw : ms_in x1 0 1 = 0 := by
        rcases ms_in_cases x1 0 1 with ⟨h, _⟩ | ⟨_, h1, h2⟩
        · exact h
        · exact absurd (ms_01 h1 h2) (by grind)
      refine mi_find0 (r := -1000000001) 0 (by decide) hO hC hD ?_ (fun M1 hs _ => ?_)
      · simp only [f_X8_let, e_X8_within, hw, zz_bd_some, me_wr, me_t0, me_t1, if_true, if_false, e_fi0]
      · simp only [f_X9_let, q0, q1, zz_bd_some, me_wr, me_t0, me_t1, if_true, if_false, e_fs0]
