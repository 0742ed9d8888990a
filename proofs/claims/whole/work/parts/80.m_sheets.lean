/-! Sheets. -/
def ms_hs (H : ms_H) (s : Nat) (b : Int32) (n : Nat) (Ns : Nat → Int64) : ms_H := (ms_u H.1 s b, fun q => if q = s then n else H.2.1 q, fun q => if q = s then Ns else H.2.2 q)
theorem ms_HC.set {M M' : zz_M} {H : ms_H} {s n : Nat} {b : Int32} {Ns : Nat → Int64} (h : ms_HC M H) (e : ∀ q, 120 ≤ q → q < 128 → q ≠ 119 + 1 + 2 * s → zz_i M' q = zz_i M q) (ej : ∀ q, q ≠ 119 + 1 + 2 * s + 1 → zz_j M' q = zz_j M q) (h0 : zz_i M' (119 + 1 + 2 * s) 0 = b) (h1 : zz_i M' (119 + 1 + 2 * s) 1 = nI n) (hN : ∀ j, j < 40 → zz_j M' (119 + 1 + 2 * s + 1) j = Ns j) : ms_HC M' (ms_hs H s b n Ns) := by
  intro u hu
  obtain ⟨g1, g2, g3⟩ := h u hu
  unfold ms_hs
  simp only
  by_cases q : u = s
  · subst q
    rw [ms_u_hit rfl]
    simp only [if_true]
    exact ⟨h0, h1, hN⟩
  · rw [ms_u_ne q]
    simp only [q, if_false]
    exact ⟨by rw [e _ (by omega) (by omega) (by omega)]; exact g1, by rw [e _ (by omega) (by omega) (by omega)]; exact g2, fun j hj => by rw [ej _ (by omega)]; exact g3 j hj⟩
theorem ms_HM.set {M M' : zz_M} {H : ms_H} {s n : Nat} {b : Int32} {Ns : Nat → Int64} (h : ms_HM M H) (e0 : ∀ q, q ≠ s → zz_i M' 135 q = zz_i M 135 q) (e1 : ∀ q, q ≠ s → zz_i M' 136 q = zz_i M 136 q) (ej : ∀ j, ¬ (40 * s ≤ j ∧ j < 40 * s + 40) → zz_j M' 137 j = zz_j M 137 j) (h0 : zz_i M' 135 s = b) (h1 : zz_i M' 136 s = nI n) (hN : ∀ j, j < 40 → zz_j M' 137 (40 * s + j) = Ns j) : ms_HM M' (ms_hs H s b n Ns) := by
  intro u hu
  obtain ⟨g1, g2, g3⟩ := h u hu
  unfold ms_hs
  simp only
  by_cases q : u = s
  · subst q
    rw [ms_u_hit rfl]
    simp only [if_true]
    exact ⟨h0, h1, hN⟩
  · rw [ms_u_ne q]
    simp only [q, if_false]
    exact ⟨by rw [e0 _ q]; exact g1, by rw [e1 _ q]; exact g2, fun j hj => by rw [ej _ (by omega)]; exact g3 j hj⟩
theorem ms_hs_ok {H : ms_H} {s n : Nat} {b : Int32} {Ns : Nat → Int64} (h : ms_okH H) (hn : n ≤ 40) (hb : b = 0 ∨ b = 8 ∨ b = 16 ∨ b = 64) : ms_okH (ms_hs H s b n Ns) := by
  intro u hu
  unfold ms_hs
  simp only
  by_cases q : u = s
  · subst q
    rw [ms_u_hit rfl]
    simp only [if_true]
    exact ⟨hn, hb⟩
  · rw [ms_u_ne q]
    simp only [q, if_false]
    exact h u hu
theorem mi_C.sh {M M' : zz_M} {Z : ms_Z} {H : ms_H} (h : mi_C M Z) (e : ∀ q, ¬ (120 ≤ q ∧ q < 128) → zz_i M' q = zz_i M q) (hH : ms_HC M' H) : mi_C M' (Z.1, Z.2.1, Z.2.2.1, H, Z.2.2.2.2) := by
  obtain ⟨h1, h2, h3, h4, h5⟩ := h
  refine ⟨h1.fr (fun q _ _ => e q (by omega)), ?_, ⟨by rw [e _ (by omega)]; exact h3.1, fun j hj => by rw [e _ (by omega)]; exact h3.2 j hj⟩, hH, fun k hk => by rw [e _ (by omega)]; exact h5 k hk⟩
  revert h2
  show ms_IC M Z.2.1 → ms_IC M' Z.2.1
  cases Z.2.1 with
  | none => intro h2; exact (congrFun (e 0 (by omega)) 2).trans h2
  | some S => intro h2; exact ⟨(congrFun (e 0 (by omega)) 2).trans h2.1, h2.2.fr (fun q _ _ => e q (by omega))⟩
theorem mi_D.sh {M M' : zz_M} {Z : ms_Z} {H : ms_H} (hO : mi_O Z) (h : mi_D M Z) (e : ∀ q, q ≠ 135 → q ≠ 136 → zz_i M' q = zz_i M q) (hH : ms_HM M' H) : mi_D M' (Z.1, Z.2.1, Z.2.2.1, H, Z.2.2.2.2) := by
  obtain ⟨h1, h2, h3, h4, h5⟩ := h
  refine ⟨h1.fr hO.1.2.2.1 (fun j _ => by rw [e 130 (by omega) (by omega)]), ?_, ⟨by rw [e 129 (by omega) (by omega)]; exact h3.1, fun j hj => by rw [e 134 (by omega) (by omega)]; exact h3.2 j hj⟩, hH, fun k hk => by rw [e 131 (by omega) (by omega)]; exact h5 k hk⟩
  have hI := hO.2.1
  revert h2 hI
  show ms_IM M Z.2.1 → ms_okI Z.2.1 → ms_IM M' Z.2.1
  cases Z.2.1 with
  | none => intro h2 _; exact (congrFun (e 129 (by omega) (by omega)) 19).trans h2
  | some S => intro h2 hI; exact ⟨(congrFun (e 129 (by omega) (by omega)) 19).trans h2.1, h2.2.fr hI.2.2.1 (fun j _ => by rw [e 139 (by omega) (by omega)])⟩
theorem mi_sh {ρ : Type} {g h : zz_M → Option (ρ × zz_M)} {M M1 M2 : zz_M} {Z : ms_Z} {H : ms_H} {r : ρ} (hO : mi_O Z) (hC : mi_C M Z) (hD : mi_D M Z) (hg : g M = some (r, M1)) (eg : ∀ q, ¬ (120 ≤ q ∧ q < 128) → zz_i M1 q = zz_i M q) (egj : ∀ q, 129 ≤ q → zz_j M1 q = zz_j M q) (h1 : ms_HC M1 H) (hh : mi_D M1 Z → h M1 = some (r, M2)) (eh : ∀ q, q ≠ 135 → q ≠ 136 → zz_i M2 q = zz_i M1 q) (ehj : ∀ q, q < 129 → zz_j M2 q = zz_j M1 q) (h2 : mi_D M1 Z → ms_HM M2 H) (hok : ms_okH H) : zw_eq mi_Inv g h M := by
  have hD1 : mi_D M1 Z := hD.cl hO (fun q hq => eg q (by omega)) egj
  exact ⟨r, M1, M2, hg, hh hD1, (Z.1, Z.2.1, Z.2.2.1, H, Z.2.2.2.2), ⟨hO.1, hO.2.1, hO.2.2.1, hok⟩, (hC.sh eg h1).rf (fun q hq => eh q (by omega) (by omega)) ehj, mi_D.sh hO hD1 eh (h2 hD1)⟩
theorem ms_in_size {x : Int32} {n : Nat} (hn : n ≤ 40) : ms_in x 0 (nI n - 1) = 0 ∨ ms_in x 0 (nI n - 1) = 1 ∧ ∃ c, c < n ∧ x = nI c := by
  rcases n with _ | n
  · rcases ms_in_cases x 0 (nI 0 - 1) with ⟨h1, _⟩ | ⟨h1, h2, h3⟩
    · exact Or.inl h1
    · exfalso
      have e : nI 0 - 1 = -1 := by decide
      rw [e] at h3
      exact absurd (Int32.le_trans h2 h3) (by decide)
  · rw [nI_pred]
    rcases ms_in_nat (x := x) (l := 0) (h := nI n) (a := 0) (b := n) rfl rfl (by omega) (by omega) with h | ⟨h, k, _, hk, e⟩
    · exact Or.inl h
    · exact Or.inr ⟨h, k, by omega, e⟩
theorem e_fill {a : Nat} {y : Int64} : ∀ (d n i : Nat) (M : zz_M), d < n → i + d = 40 → ∃ M' : zz_M, b_J7_fill_d0a16_6 n a y (nI i) 40 M = some ((), M') ∧ (∀ j, i ≤ j → j < 40 → zz_j M' a j = y) ∧ (∀ j, j < i → zz_j M' a j = zz_j M a j) ∧ (∀ q, q ≠ a → zz_j M' q = zz_j M q) ∧ ∀ q, zz_i M' q = zz_i M q
  | 0, n + 1, i, M, _, hi => by
    have : i = 40 := by omega
    subst this
    unfold b_J7_fill_d0a16_6
    rw [if_pos (by decide)]
    exact ⟨M, rfl, fun j h1 h2 => by omega, fun _ _ => rfl, fun _ _ => rfl, fun _ => rfl⟩
  | d + 1, n + 1, i, M, hd, hi => by
    unfold b_J7_fill_d0a16_6
    rw [if_neg (me_ge (y := 40) i 40 rfl (by omega) (by decide)), if_pos (me_in (show i < 40 by omega) (by decide)), me_n (by omega), me_wr, me_wr, nI_1]
    obtain ⟨M', h1, h2, h3, h4, h5⟩ := e_fill (a := a) (y := y) d n (i + 1) (zz_sj M a i y) (by omega) (by omega)
    refine ⟨M', h1, fun j g1 g2 => ?_, fun j g => ?_, fun q g => ?_, fun q => ?_⟩
    · by_cases q : j = i
      · rw [q, h3 i (by omega), me_jhit rfl rfl]
      · exact h2 j (by omega) g2
    · rw [h3 j (by omega), me_jne (by omega)]
    · rw [h4 q g]; funext k; rw [me_jne (by omega)]
    · rw [h5 q]; rfl
theorem e_X3_lay {M : zz_M} {a : Nat} {b : Int32} {n : Nat} : ∃ M' : zz_M, f_X3_lay a b (nI n) M = some ((), M') ∧ zz_i M' a 0 = b ∧ zz_i M' a 1 = nI (if b = 0 then 0 else n) ∧ (∀ j, j < 40 → zz_j M' (a + 1) j = 0) ∧ (∀ q, q ≠ a + 1 → zz_j M' q = zz_j M q) ∧ ∀ q, q ≠ a → zz_i M' q = zz_i M q := by
  have go : ∀ z : Int32, ∃ M' : zz_M, b_X3_lay_15 a z a (zz_si M a 0 b) = some ((), M') ∧ zz_i M' a 0 = b ∧ zz_i M' a 1 = z ∧ (∀ j, j < 40 → zz_j M' (a + 1) j = 0) ∧ (∀ q, q ≠ a + 1 → zz_j M' q = zz_j M q) ∧ ∀ q, q ≠ a → zz_i M' q = zz_i M q := by
    intro z
    obtain ⟨M', h1, h2, h3, h4, h5⟩ := e_fill (a := a + 1) (y := 0) 40 zz_fuel 0 (zz_si (zz_si M a 0 b) a 1 z) (by decide) (by omega)
    have h1 : f_J7_fill_d0a16 (a + 1) 0 (zz_si (zz_si M a 0 b) a 1 z) = some ((), M') := h1
    refine ⟨M', ?_, by rw [h5, me_ine (by omega), me_hit rfl rfl], by rw [h5, me_hit rfl rfl], fun j hj => h2 j (by omega) hj, fun q hq => h4 q hq, fun q hq => by rw [h5, zz_i_si_ne hq, zz_i_si_ne hq]⟩
    unfold b_X3_lay_15
    rw [me_wr, h1, zz_bd_some]
  unfold f_X3_lay
  rw [me_wr]
  by_cases hb : b = 0
  · rw [if_pos hb, if_pos hb]; exact go 0
  · rw [if_neg hb, if_neg hb]; exact go (nI n)
theorem ms_4 {α : Type} {x : Int32} (A B : α) (h : x = 0 ∨ x = 8 ∨ x = 16 ∨ x = 64) : (if x = 0 then A else if x = 8 then A else if x = 16 then A else if x = 64 then A else B) = A := by
  rcases h with rfl | rfl | rfl | rfl <;> rfl
theorem ms_no4 {α : Type} {x : Int32} (A B : α) (h : ¬ (x = 0 ∨ x = 8 ∨ x = 16 ∨ x = 64)) : (if x = 0 then A else if x = 8 then A else if x = 16 then A else if x = 64 then A else B) = B := by
  rw [if_neg (fun q => h (Or.inl q)), if_neg (fun q => h (Or.inr (Or.inl q))), if_neg (fun q => h (Or.inr (Or.inr (Or.inl q)))), if_neg (fun q => h (Or.inr (Or.inr (Or.inr q))))]
theorem mr_40 (s j : Nat) : ((40 : Int32) * nI s) + nI j = nI (40 * s + j) := by rw [show (40 : Int32) = nI 40 from rfl, pk_mul, nI_add]
theorem e_X9_sheet86 {s : Nat} (hs : s < 4) (a : Nat) : ∀ (d n i : Nat) (M : zz_M), d < n → i + d = 40 → ∃ M' : zz_M, b_X9_sheet_86 n a (nI s) (nI i) M = some (zz_i M 136 s, M') ∧ (∀ j, i ≤ j → j < 40 → zz_j M' 137 (40 * s + j) = 0) ∧ (∀ j, ¬ (40 * s + i ≤ j ∧ j < 40 * s + 40) → zz_j M' 137 j = zz_j M 137 j) ∧ (∀ q, q ≠ 137 → zz_j M' q = zz_j M q) ∧ ∀ q, zz_i M' q = zz_i M q
  | 0, n + 1, i, M, _, hi => by
    have : i = 40 := by omega
    subst this
    unfold b_X9_sheet_86
    rw [if_pos (by decide), if_pos (me_in hs (by decide)), me_n (by omega)]
    exact ⟨M, rfl, fun j h1 h2 => by omega, fun _ _ => rfl, fun _ _ => rfl, fun _ => rfl⟩
  | d + 1, n + 1, i, M, hd, hi => by
    unfold b_X9_sheet_86
    rw [if_neg (me_ge (y := 40) i 40 rfl (by omega) (by decide)), mr_40, if_pos (me_in (show 40 * s + i < 160 by omega) (by decide)), me_n (by omega), me_wr, me_wr, nI_1]
    obtain ⟨M', h1, h2, h3, h4, h5⟩ := e_X9_sheet86 hs a d n (i + 1) (zz_sj M 137 (40 * s + i) 0) (by omega) (by omega)
    refine ⟨M', h1, fun j g1 g2 => ?_, fun j g => ?_, fun q g => ?_, fun q => ?_⟩
    · by_cases q : j = i
      · rw [q, h3 _ (by omega), me_jhit rfl rfl]
      · exact h2 j (by omega) g2
    · rw [h3 j (by omega), me_jne (by omega)]
    · rw [h4 q g]; funext k; rw [me_jne (by omega)]
    · rw [h5 q]; rfl
theorem op_sheet {M : zz_M} (hI : mi_Inv M) (x1 x2 x3 : Int32) : zw_eq mi_Inv (f_X8_sheet 0 x1 x2 x3) (f_X9_sheet 129 x1 x2 x3) M := by
  obtain ⟨Z, hO, hC, hD⟩ := hI
  rcases ms_in_nat (x := x1) (l := 0) (h := 3) (a := 0) (b := 3) rfl rfl (by omega) (by omega) with h | ⟨h, s, _, hs, rfl⟩
  · refine mi_find0 (r := -1000000001) 0 (by decide) hO hC hD ?_ (fun M1 hs _ => ?_)
    · simp only [f_X8_sheet, e_X8_isSheet, h, zz_bd_some, me_wr, me_t0, me_t1, if_true, if_false, e_fi0]
    · simp only [f_X9_sheet, e_X9_isSheet, h, zz_bd_some, me_wr, me_t0, me_t1, if_true, if_false, e_fs0]
  have hs4 : s < 4 := by omega
  have hsi : zz_in (nI s) 4 = true := me_in hs4 (by decide)
  have hsn : zz_n (nI s) = s := me_n (by omega)
  by_cases hb : x2 = 0 ∨ x2 = 8 ∨ x2 = 16 ∨ x2 = 64
  · by_cases h0 : 0 ≤ x3
    · by_cases h40 : x3 ≤ 40
      · obtain ⟨n, hn, rfl⟩ := nI_of2 (M := 40) (n := 40) (x := x3) (by decide) (by rw [Int32.not_lt]; exact h0) h40
        obtain ⟨M1, hM1, a0, a1, aj, ej, ei⟩ := e_X3_lay (M := M) (a := 119 + 1 + 2 * s) (b := x2) (n := n)
        have hr : ∃ M2 : zz_M, b_X9_sheet_36 129 (nI s) x2 (nI n) M1 = some (nI (if x2 = 0 then 0 else n), M2) ∧ (∀ q, q ≠ s → zz_i M2 135 q = zz_i M1 135 q) ∧ (∀ q, q ≠ s → zz_i M2 136 q = zz_i M1 136 q) ∧ (∀ j, ¬ (40 * s ≤ j ∧ j < 40 * s + 40) → zz_j M2 137 j = zz_j M1 137 j) ∧ zz_i M2 135 s = x2 ∧ zz_i M2 136 s = nI (if x2 = 0 then 0 else n) ∧ (∀ j, j < 40 → zz_j M2 137 (40 * s + j) = 0) ∧ (∀ q, q ≠ 135 → q ≠ 136 → zz_i M2 q = zz_i M1 q) ∧ (∀ q, q ≠ 137 → zz_j M2 q = zz_j M1 q) := by
          have go : ∀ z : Int32, ∃ M2 : zz_M, b_X9_sheet_82 129 (nI s) z (nI s) 136 (zz_si M1 135 s x2) = some (z, M2) ∧ (∀ q, q ≠ s → zz_i M2 135 q = zz_i M1 135 q) ∧ (∀ q, q ≠ s → zz_i M2 136 q = zz_i M1 136 q) ∧ (∀ j, ¬ (40 * s ≤ j ∧ j < 40 * s + 40) → zz_j M2 137 j = zz_j M1 137 j) ∧ zz_i M2 135 s = x2 ∧ zz_i M2 136 s = z ∧ (∀ j, j < 40 → zz_j M2 137 (40 * s + j) = 0) ∧ (∀ q, q ≠ 135 → q ≠ 136 → zz_i M2 q = zz_i M1 q) ∧ (∀ q, q ≠ 137 → zz_j M2 q = zz_j M1 q) := by
            intro z
            obtain ⟨M2, b1, b2, b3, b4, b5⟩ := e_X9_sheet86 hs4 129 40 zz_fuel 0 (zz_si (zz_si M1 135 s x2) 136 s z) (by decide) (by omega)
            rw [me_hit rfl rfl] at b1
            refine ⟨M2, ?_, fun q hq => ?_, fun q hq => ?_, fun j hj => ?_, ?_, ?_, fun j hj => b2 j (by omega) hj, fun q c1 c2 => ?_, fun q hq => b4 q hq⟩
            · unfold b_X9_sheet_82
              rw [if_pos hsi, hsn, me_wr]
              exact b1
            · rw [b5, me_ine (by omega), me_ine (by omega)]
            · rw [b5, me_ine (by omega), me_ine (by omega)]
            · rw [b3 j (by omega)]; rfl
            · rw [b5, me_ine (by omega), me_hit rfl rfl]
            · rw [b5, me_hit rfl rfl]
            · rw [b5, zz_i_si_ne c2, zz_i_si_ne c1]
          unfold b_X9_sheet_36
          rw [if_pos h0, if_pos h40, if_pos hsi, hsn, me_wr]
          by_cases hz : x2 = 0
          · rw [if_pos hz, if_pos hz]; exact go 0
          · rw [if_neg hz, if_neg hz]; exact go (nI n)
        obtain ⟨M2, r1, r2, r3, r4, r5, r6, r7, r8, r9⟩ := hr
        refine mi_sh (r := nI (if x2 = 0 then 0 else n)) (M1 := M1) (M2 := M2) (H := ms_hs Z.2.2.2.1 s x2 (if x2 = 0 then 0 else n) (fun _ => 0)) hO hC hD ?_ (fun q hq => ei q (by omega)) (fun q hq => ej q (by omega)) (hC.2.2.2.1.set (fun q _ _ hq => ei q hq) ej a0 a1 aj) (fun hD1 => ?_) r8 (fun q hq => r9 q (by omega)) (fun hD1 => hD1.2.2.2.1.set r2 r3 r4 r5 r6 r7) (ms_hs_ok hO.2.2.2 (by split <;> omega) hb)
        · unfold f_X8_sheet
          rw [e_X8_isSheet, zz_bd_some, h, if_neg (show ¬ (1 : Int32) = 0 by decide), ms_4 _ _ hb]
          unfold b_X8_sheet_36
          rw [if_pos h0, if_pos h40, if_pos hsi, hsn, hM1, zz_bd_some, if_pos hsi, a1]
        · unfold f_X9_sheet
          rw [e_X9_isSheet, zz_bd_some, h, if_neg (show ¬ (1 : Int32) = 0 by decide), ms_4 _ _ hb]
          exact r1
      · refine mi_find0 (r := -1000000001) 0 (by decide) hO hC hD ?_ (fun M1 _ _ => ?_)
        · unfold f_X8_sheet
          rw [e_X8_isSheet, zz_bd_some, h, if_neg (show ¬ (1 : Int32) = 0 by decide), ms_4 _ _ hb]
          unfold b_X8_sheet_36
          rw [if_pos h0, if_neg h40, e_fi0, zz_bd_some]
        · unfold f_X9_sheet
          rw [e_X9_isSheet, zz_bd_some, h, if_neg (show ¬ (1 : Int32) = 0 by decide), ms_4 _ _ hb]
          unfold b_X9_sheet_36
          rw [if_pos h0, if_neg h40, e_fs0, zz_bd_some]
    · refine mi_find0 (r := -1000000007) 6 (by decide) hO hC hD ?_ (fun M1 _ _ => ?_)
      · unfold f_X8_sheet
        rw [e_X8_isSheet, zz_bd_some, h, if_neg (show ¬ (1 : Int32) = 0 by decide), ms_4 _ _ hb]
        unfold b_X8_sheet_36
        rw [if_neg h0, e_fi6, zz_bd_some]
      · unfold f_X9_sheet
        rw [e_X9_isSheet, zz_bd_some, h, if_neg (show ¬ (1 : Int32) = 0 by decide), ms_4 _ _ hb]
        unfold b_X9_sheet_36
        rw [if_neg h0, e_fs6, zz_bd_some]
  · refine mi_find0 (r := -1000000001) 0 (by decide) hO hC hD ?_ (fun M1 _ _ => ?_)
    · unfold f_X8_sheet
      rw [e_X8_isSheet, zz_bd_some, h, if_neg (show ¬ (1 : Int32) = 0 by decide), ms_no4 _ _ hb, e_fi0, zz_bd_some]
    · unfold f_X9_sheet
      rw [e_X9_isSheet, zz_bd_some, h, if_neg (show ¬ (1 : Int32) = 0 by decide), ms_no4 _ _ hb, e_fs0, zz_bd_some]
def ms_nrw (b : Int32) (y : Int64) : Int64 := if b = 8 then (y <<< ((56 : Int32).toInt64 &&& (63 : Int64))) >>> ((56 : Int32).toInt64 &&& (63 : Int64)) else if b = 16 then (y <<< ((48 : Int32).toInt64 &&& (63 : Int64))) >>> ((48 : Int32).toInt64 &&& (63 : Int64)) else y
theorem e_X9_narrow (b : Int32) (y : Int64) (M : zz_M) : f_X9_narrow b y M = some (ms_nrw b y, M) := by
  unfold f_X9_narrow ms_nrw
  split
  · rfl
  · split <;> rfl
theorem e_X3_put {M : zz_M} {a n i : Nat} {b : Int32} (y : Int64) (h0 : zz_i M a 0 = b) (h1 : zz_i M a 1 = nI n) (hn : n ≤ 40) (hi : i < n) : f_X3_put a (nI i) y M = some ((), zz_sj M (a + 1) i (ms_nrw b y)) := by
  have hw : ms_in (nI i) 0 (nI n - 1) = 1 := by
    obtain ⟨m, rfl⟩ : ∃ m, n = m + 1 := ⟨n - 1, by omega⟩
    rw [nI_pred]
    exact ms_in_1 (nI_pos' (by omega)) (nI_le (by omega) (by omega))
  have hin : zz_in (nI i) 40 = true := me_in (by omega) (by decide)
  have hz : zz_n (nI i) = i := me_n (by omega)
  unfold f_X3_put ms_nrw
  rw [e_X8_within, zz_bd_some, h1, hw, if_neg (by decide), h0]
  by_cases q8 : b = 8
  · rw [if_pos q8, if_pos q8, if_pos hin, hz, me_wr, ms_nar8]
  · rw [if_neg q8, if_neg q8]
    by_cases q16 : b = 16
    · rw [if_pos q16, if_pos q16, if_pos hin, hz, me_wr, ms_nar16]
    · rw [if_neg q16, if_neg q16, if_pos hin, hz, me_wr]
theorem e_X3_missing {M : zz_M} {a : Nat} {b : Int32} (h : zz_i M a 0 = b) : f_X3_isMissing a M = some (if b = 0 then 1 else 0, M) := by
  unfold f_X3_isMissing
  rw [h]
  split <;> rfl
theorem op_write {M : zz_M} (hI : mi_Inv M) (x1 x2 : Int32) (y3 : Int64) : zw_eq mi_Inv (f_X8_write 0 x1 x2 y3) (f_X9_write 129 x1 x2 y3) M := by
  obtain ⟨Z, hO, hC, hD⟩ := hI
  rcases ms_in_nat (x := x1) (l := 0) (h := 3) (a := 0) (b := 3) rfl rfl (by omega) (by omega) with h | ⟨h, s, _, hs, rfl⟩
  · refine mi_find0 (r := (-1000000001 : Int32).toInt64) 0 (by decide) hO hC hD ?_ (fun M1 hs1 hd => ?_)
    · simp only [f_X8_write, e_X8_isSheet, h, zz_bd_some, me_wr, me_t0, me_t1, if_true, if_false, e_fi0]
    · simp only [f_X9_write, e_X9_isSheet, h, zz_bd_some, me_wr, me_t0, me_t1, if_true, if_false, e_fs0]
  have hs4 : s < 4 := by omega
  have hsi : zz_in (nI s) 4 = true := me_in hs4 (by decide)
  have hsn : zz_n (nI s) = s := me_n (by omega)
  obtain ⟨c0, c1, c2⟩ := hC.2.2.2.1 s hs4
  obtain ⟨hz40, hbits⟩ := hO.2.2.2 s hs4
  by_cases hb : Z.2.2.2.1.1 s = 0
  · refine mi_find0 (r := (-1000000006 : Int32).toInt64) 5 (by decide) hO hC hD ?_ (fun M1 _ hd => ?_)
    · unfold f_X8_write
      rw [e_X8_isSheet, zz_bd_some, h, if_neg (show ¬ (1 : Int32) = 0 by decide), if_pos hsi, hsn, e_X3_missing c0, if_pos hb, zz_bd_some, if_neg (show ¬ (1 : Int32) = 0 by decide), e_fi5, zz_bd_some]
    · unfold f_X9_write
      rw [e_X9_isSheet, zz_bd_some, h, if_neg (show ¬ (1 : Int32) = 0 by decide), if_pos hsi, hsn, (hd.2.2.2.1 s hs4).1, if_pos hb, e_fs5, zz_bd_some]
  rcases ms_in_size (x := x2) hz40 with h2 | ⟨h2, i, hi, rfl⟩
  · refine mi_find0 (r := (-1000000001 : Int32).toInt64) 0 (by decide) hO hC hD ?_ (fun M1 _ hd => ?_)
    · unfold f_X8_write
      rw [e_X8_isSheet, zz_bd_some, h, if_neg (show ¬ (1 : Int32) = 0 by decide), if_pos hsi, hsn, e_X3_missing c0, if_neg hb, zz_bd_some, if_pos (show (0 : Int32) = 0 from rfl), e_X8_within, zz_bd_some, c1, h2, if_pos (show (0 : Int32) = 0 from rfl), e_fi0, zz_bd_some]
    · unfold f_X9_write
      rw [e_X9_isSheet, zz_bd_some, h, if_neg (show ¬ (1 : Int32) = 0 by decide), if_pos hsi, hsn, (hd.2.2.2.1 s hs4).1, if_neg hb, if_pos hsi, e_X9_in, zz_bd_some, (hd.2.2.2.1 s hs4).2.1, h2, if_pos (show (0 : Int32) = 0 from rfl), e_fs0, zz_bd_some]
  · have hi40 : i < 40 := by omega
    have h160 : zz_in (nI (40 * s + i)) 160 = true := me_in (by omega) (by decide)
    have hn160 : zz_n (nI (40 * s + i)) = 40 * s + i := me_n (by omega)
    refine mi_sh (r := Z.2.2.2.1.2.2 s i) (M1 := zz_sj M (119 + 1 + 2 * s + 1) i (ms_nrw (Z.2.2.2.1.1 s) y3)) (M2 := zz_sj (zz_sj M (119 + 1 + 2 * s + 1) i (ms_nrw (Z.2.2.2.1.1 s) y3)) 137 (40 * s + i) (ms_nrw (Z.2.2.2.1.1 s) y3)) (H := ms_hs Z.2.2.2.1 s (Z.2.2.2.1.1 s) (Z.2.2.2.1.2.1 s) (fun j => if j = i then ms_nrw (Z.2.2.2.1.1 s) y3 else Z.2.2.2.1.2.2 s j)) hO hC hD ?_ (fun _ _ => rfl) (fun q hq => zz_j_sj_ne (by omega)) (hC.2.2.2.1.set (fun _ _ _ _ => rfl) (fun q hq => zz_j_sj_ne hq) c0 c1 (fun j hj => ?_)) (fun hd => ?_) (fun _ _ _ => rfl) (fun q hq => zz_j_sj_ne (by omega)) (fun hd => ?_) (ms_hs_ok hO.2.2.2 hz40 hbits)
    · unfold f_X8_write
      rw [e_X8_isSheet, zz_bd_some, h, if_neg (show ¬ (1 : Int32) = 0 by decide), if_pos hsi, hsn, e_X3_missing c0, if_neg hb, zz_bd_some, if_pos (show (0 : Int32) = 0 from rfl), e_X8_within, zz_bd_some, c1, h2, if_neg (show ¬ (1 : Int32) = 0 by decide), if_pos (me_in hi40 (by decide)), me_n (by omega), me_wr, e_X3_put y3 c0 c1 hz40 hi, zz_bd_some, c2 i hi40]
    · by_cases q : j = i
      · rw [me_jhit rfl q, if_pos q]
      · rw [me_jne (by omega), if_neg q, c2 j hj]
    · obtain ⟨d0, d1, d2⟩ := hd.2.2.2.1 s hs4
      unfold f_X9_write
      rw [e_X9_isSheet, zz_bd_some, h, if_neg (show ¬ (1 : Int32) = 0 by decide), if_pos hsi, hsn, d0, if_neg hb, if_pos hsi, e_X9_in, zz_bd_some, d1, h2, if_neg (show ¬ (1 : Int32) = 0 by decide), mr_40, if_pos h160, hn160, me_wr, if_pos hsi, e_X9_narrow, zz_bd_some, if_pos h160, me_wr, d2 i hi40, d0]
    · obtain ⟨d0, d1, d2⟩ := hd.2.2.2.1 s hs4
      refine hd.2.2.2.1.set (fun _ _ => rfl) (fun _ _ => rfl) (fun j hj => me_jne (by omega)) d0 d1 (fun j hj => ?_)
      by_cases q : j = i
      · rw [me_jhit rfl (by omega), if_pos q]
      · rw [me_jne (by omega), if_neg q, d2 j hj]
