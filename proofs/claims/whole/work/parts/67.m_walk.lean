/-! The class's rows of dips. -/
theorem ms_RV.dip {M M' : zz_M} {r v : Nat} {V : Nat → Int32} {x1 x2 : Int32} (hv : v < 4) (h : ms_RV M r V) (h1 : zz_i M' (r + 2 + v) 1 = x1) (h2 : zz_i M' (r + 2 + v) 2 = x2) (h3 : ∀ k, k ≠ 1 → k ≠ 2 → zz_i M' (r + 2 + v) k = zz_i M (r + 2 + v) k) (h4 : ∀ q, r ≤ q → q < r + 6 → q ≠ r + 2 + v → zz_i M' q = zz_i M q) : ms_RV M' r (ms_u (ms_u V (4 + 4 * v + 1) x1) (4 + 4 * v + 2) x2) := by
  obtain ⟨g1, g2, g3, g4⟩ := h
  refine ⟨?_, ?_, ?_, fun u hu k hk => ?_⟩
  · rw [h4 r (by omega) (by omega) (by omega), ms_u_ne (by omega), ms_u_ne (by omega), g1]
  · rw [h4 r (by omega) (by omega) (by omega), ms_u_ne (by omega), ms_u_ne (by omega), g2]
  · rw [h4 r (by omega) (by omega) (by omega), ms_u_ne (by omega), ms_u_ne (by omega), g3]
  · by_cases e : u = v
    · subst e
      by_cases k1 : k = 1
      · subst k1; rw [h1, ms_u_ne (by omega), ms_u_hit rfl]
      · by_cases k2 : k = 2
        · subst k2; rw [h2, ms_u_hit rfl]
        · rw [h3 k k1 k2, ms_u_ne (by omega), ms_u_ne (by omega), g4 u hu k hk]
    · rw [h4 _ (by omega) (by omega) (by omega), ms_u_ne (by omega), ms_u_ne (by omega), g4 u hu k hk]
theorem e_X0_dv {M : zz_M} {a r v : Nat} {kd : Int32} {X : ms_X} (hv : v < 4) (hK : ms_KC M a kd X.1) (hR : ms_RV M r X.2) (hok : ms_okX X) (ha : a + 2 ≤ r ∨ r + 6 ≤ a) :
    ∃ M' : zz_M, f_X0_dipInto a (r + 2 + v) M = some ((), M') ∧ ms_KC M' a kd (ms_dv kd X v).1 ∧ ms_RV M' r (ms_dv kd X v).2 ∧ me_same (fun q => q = a ∨ q = a + 1 ∨ q = r + 2 + v) M M' := by
  obtain ⟨M', h, hK', h1, h2, h3, hS⟩ := e_X0_dipInto (b := r + 2 + v) hK (by omega) (hR.2.2.2 v hv 0 (by omega)) (hR.2.2.2 v hv 1 (by omega)) (hR.2.2.2 v hv 2 (by omega)) (hok.2.2.2 v hv).1
  exact ⟨M', h, hK', hR.dip hv h1 h2 h3 (fun q _ _ _ => hS.at (by omega)), hS⟩
theorem e_X2_dipNext {M : zz_M} {dp v : Nat} {kd : Int32} {X : ms_X} (hd : dp < 6) (hv : v < 4) (hK : ms_KC M (74 + 2 * dp) kd X.1) (hR : ms_RV M 67 X.2) (hok : ms_okX X) :
    ∃ M' : zz_M, f_X2_dipNext 66 (nI dp) (66 + 1 + 1 + 1 + v) M = some ((), M') ∧ ms_KC M' (74 + 2 * (dp + 1)) kd (ms_dv kd X v).1 ∧ ms_RV M' 67 (ms_dv kd X v).2 ∧ me_same (fun q => q = 76 + 2 * dp ∨ q = 77 + 2 * dp ∨ q = 69 + v) M M' := by
  have e1 : 66 + 7 + 1 + 2 * (dp + 1) = 74 + 2 * (dp + 1) := by omega
  have e2 : 66 + 7 + 1 + 2 * dp = 74 + 2 * dp := by omega
  have e3 : 66 + 1 + 1 + 1 + v = 67 + 2 + v := by omega
  unfold f_X2_dipNext
  rw [nI_1, if_pos (me_in (by omega) (by decide)), if_pos (me_in (by omega) (by decide)), me_n (by omega), me_n (by omega), e1, e2, e3]
  obtain ⟨M1, hM1, hK1, hS1⟩ := e_X0_become (a := 74 + 2 * (dp + 1)) hK (by omega)
  obtain ⟨M2, hM2, hK2, hR2, hS2⟩ := e_X0_dv (r := 67) hv hK1 (hR.fr (fun q _ _ => hS1.at (by omega))) hok (by omega)
  rw [hM1, zz_bd_some, if_pos (me_in (by omega) (by decide)), hM2, zz_bd_some]
  exact ⟨M2, rfl, hK2, hR2, (hS1.wk (fun q hq => by omega)).tr (hS2.wk (fun q hq => by omega))⟩
theorem e_X2_judge {M : zz_M} {f : Nat → Int32} {w : Int32} {i : Nat} (h3 : zz_i M 66 3 = w) (hf : zz_i M 66 6 = -1 ∨ 0 ≤ zz_i M 66 6) :
    ∃ M' : zz_M, f_X2_judge 66 (f i) (nI i) M = some ((), M') ∧ zz_i M' 66 4 = ms_gC f w i (zz_i M 66 4) ∧ zz_i M' 66 5 = ms_gL f i (zz_i M 66 5) ∧ zz_i M' 66 6 = ms_gF f w i (zz_i M 66 6) ∧ zz_i M' 66 2 = zz_i M 66 2 ∧ zz_i M' 66 3 = zz_i M 66 3 ∧ me_same (fun q => q = 66) M M' := by
  have s31 : ∀ M1 : zz_M, zz_i M1 66 3 = w → ∃ M' : zz_M, b_X2_judge_31 66 (f i) (nI i) M1 = some ((), M') ∧ zz_i M' 66 6 = ms_gF f w i (zz_i M1 66 6) ∧ (∀ k, k ≠ 6 → zz_i M' 66 k = zz_i M1 66 k) ∧ me_same (fun q => q = 66) M1 M' := by
    intro M1 h
    unfold b_X2_judge_31 ms_gF
    rw [h]
    split
    · exact ⟨M1, rfl, rfl, fun _ _ => rfl, me_same.rf⟩
    · split
      · exact ⟨M1, rfl, rfl, fun _ _ => rfl, me_same.rf⟩
      · exact ⟨_, rfl, me_hit rfl rfl, fun k hk => me_ine (by omega), me_same.s1⟩
  have s18 : ∀ M1 : zz_M, zz_i M1 66 3 = w → ∃ M' : zz_M, b_X2_judge_18 66 (f i) (nI i) M1 = some ((), M') ∧ zz_i M' 66 5 = ms_gL f i (zz_i M1 66 5) ∧ zz_i M' 66 6 = ms_gF f w i (zz_i M1 66 6) ∧ (∀ k, k ≠ 6 → k ≠ 5 → zz_i M' 66 k = zz_i M1 66 k) ∧ me_same (fun q => q = 66) M1 M' := by
    intro M1 h
    unfold b_X2_judge_18 ms_gL
    split
    · obtain ⟨M', a1, a2, a3, a4⟩ := s31 M1 h
      exact ⟨M', a1, a3 5 (by decide), a2, fun k k1 _ => a3 k k1, a4⟩
    · obtain ⟨M', a1, a2, a3, a4⟩ := s31 (zz_si M1 66 5 (f i)) (by rw [me_ine (by omega), h])
      rw [me_wr]
      refine ⟨M', a1, by rw [a3 5 (by decide), me_hit rfl rfl], by rw [a2, me_ine (by omega)], fun k k1 k2 => by rw [a3 k k1, me_ine (by omega)], (me_same.s1).tr a4⟩
  unfold f_X2_judge ms_gC
  rw [h3]
  split
  · obtain ⟨M', a1, a2, a3, a4, a5⟩ := s18 (zz_si M 66 4 (zz_i M 66 4 + 1)) (by rw [me_ine (by omega), h3])
    rw [me_wr]
    refine ⟨M', a1, ?_, ?_, ?_, ?_, ?_, (me_same.s1).tr a5⟩
    · rw [a4 4 (by decide) (by decide), me_hit rfl rfl]
    · rw [a2, me_ine (by omega)]
    · rw [a3, me_ine (by omega)]
    · rw [a4 2 (by decide) (by decide), me_ine (by omega)]
    · rw [a4 3 (by decide) (by decide), me_ine (by omega), h3]
  · obtain ⟨M', a1, a2, a3, a4, a5⟩ := s18 M h3
    refine ⟨M', a1, ?_, a2, a3, a4 2 (by decide) (by decide), by rw [a4 3 (by decide) (by decide), h3], a5⟩
    rw [a4 4 (by decide) (by decide)]
    grind
/-- what the walk has told -/
def mw_at (f : Nat → Int32) (w : Int32) (d i : Nat) (M M' : zz_M) : Prop := zz_i M' 66 4 = ms_fold (ms_gC f w) d i (zz_i M 66 4) ∧ zz_i M' 66 5 = ms_fold (ms_gL f) d i (zz_i M 66 5) ∧ zz_i M' 66 6 = ms_fold (ms_gF f w) d i (zz_i M 66 6) ∧ zz_i M' 66 2 = zz_i M 66 2 ∧ zz_i M' 66 3 = zz_i M 66 3
theorem mw_at.tr {f : Nat → Int32} {w : Int32} {d e i : Nat} {M M1 M2 : zz_M} (h1 : mw_at f w d i M M1) (h2 : mw_at f w e (i + d) M1 M2) : mw_at f w (d + e) i M M2 := by
  obtain ⟨a1, a2, a3, a4, a5⟩ := h1
  obtain ⟨b1, b2, b3, b4, b5⟩ := h2
  refine ⟨?_, ?_, ?_, b4.trans a4, b5.trans a5⟩
  · rw [b1, a1, ms_fold_add]
  · rw [b2, a2, ms_fold_add]
  · rw [b3, a3, ms_fold_add]
theorem mw_at.eqs {f : Nat → Int32} {w : Int32} {d i : Nat} {M M0 M1 M' : zz_M} (h : mw_at f w d i M M1) (e0 : zz_i M0 66 = zz_i M 66) (e1 : zz_i M' 66 = zz_i M1 66) : mw_at f w d i M0 M' := by
  unfold mw_at at h ⊢
  rw [e0, e1]
  exact h
theorem mw_F {f : Nat → Int32} {w : Int32} (hf : True) : ∀ (d i : Nat) (x : Int32), i + d ≤ 10000 → x = -1 ∨ 0 ≤ x → ms_fold (ms_gF f w) d i x = -1 ∨ 0 ≤ ms_fold (ms_gF f w) d i x
  | 0, _, _, _, h => h
  | d + 1, i, x, hi, h => by
    rw [ms_fold]
    refine mw_F hf d (i + 1) _ (by omega) ?_
    unfold ms_gF
    split
    · exact Or.inr (by assumption)
    · split
      · exact h
      · exact Or.inr (nI_pos' (by omega))
theorem e_X2_walk {f : Nat → Int32} {w kd : Int32} {N : Nat} (hN : N ≤ 6) : ∀ (d n dp row : Nat) (M : zz_M) (X : ms_X), d < n → dp + d = N → row < 4 ^ dp → zz_i M 66 2 = nI N → zz_i M 66 3 = w → zz_i M 66 6 = -1 ∨ 0 ≤ zz_i M 66 6 → ms_KC M (74 + 2 * dp) kd X.1 → ms_RV M 67 X.2 → ms_okX X → (∀ i, i < 4 ^ d → f (row * 4 ^ d + i) = ms_mn kd (ms_row kd d i X).1) →
    ∃ M' : zz_M, f_X2_walkOnR n 66 (nI dp) (nI row) M = some ((), M') ∧ mw_at f w (4 ^ d) (row * 4 ^ d) M M' ∧ ms_RV M' 67 X.2 ∧ me_same (fun q => q = 66 ∨ 69 ≤ q ∧ q < 73 ∨ 76 + 2 * dp ≤ q ∧ q < 88) M M'
  | 0, n + 1, dp, row, M, X, _, hd, hrow, h2, h3, h6, hK, hR, hok, hf => by
    have : dp = N := by omega
    subst this
    unfold f_X2_walkOnR
    rw [h2, if_pos (nI_le (Nat.le_refl _) (by omega))]
    unfold b_X2_walkOn_14
    have e2 : 66 + 7 + 1 + 2 * dp = 74 + 2 * dp := by omega
    rw [if_pos (me_in (by omega) (by decide)), me_n (by omega), e2, e_X0_minutes hK, zz_bd_some]
    have e := hf 0 (by decide)
    rw [Nat.pow_zero, Nat.mul_one, Nat.add_zero] at e
    have e : f row = ms_mn kd X.1 := e
    rw [← e]
    obtain ⟨M', a1, a2, a3, a4, a5, a6, a7⟩ := e_X2_judge (M := M) (f := f) (w := w) (i := row) h3 h6
    rw [a1, zz_bd_some]
    refine ⟨M', rfl, ?_, hR.fr (fun q _ _ => a7.at (by omega)), a7.wk (fun q hq => Or.inl hq)⟩
    rw [Nat.pow_zero, Nat.mul_one]
    exact ⟨a2, a3, a4, a5, a6⟩
  | d + 1, n + 1, dp, row, M, X, hdn, hd, hrow, h2, h3, h6, hK, hR, hok, hf => by
    have hp : 4 ^ dp ≤ 4 ^ 6 := Nat.pow_le_pow_right (by decide) (by omega)
    have hpd : 4 ^ (d + 1) = 4 * 4 ^ d := by rw [Nat.pow_succ, Nat.mul_comm]
    have hrow6 : row < 4096 := Nat.lt_of_lt_of_le hrow hp
    have h1d : 1 ≤ 4 ^ d := Nat.pow_pos (by decide)
    have hall : (row + 1) * 4 ^ (d + 1) ≤ 4096 := by
      have h1 : (row + 1) * 4 ^ (d + 1) ≤ 4 ^ dp * 4 ^ (d + 1) := Nat.mul_le_mul_right _ hrow
      rw [← Nat.pow_add, hd] at h1
      exact Nat.le_trans h1 (Nat.pow_le_pow_right (by decide) hN)
    unfold f_X2_walkOnR
    rw [h2, if_neg (nI_ge (by omega) (by omega)), if_pos (me_lt (y := 6) (dp) 6 rfl (by omega) (by decide))]
    have loop : ∀ (e k v : Nat) (M : zz_M), e < k → v + e = 4 → zz_i M 66 2 = nI N → zz_i M 66 3 = w → zz_i M 66 6 = -1 ∨ 0 ≤ zz_i M 66 6 → ms_KC M (74 + 2 * dp) kd X.1 → ms_RV M 67 X.2 →
        ∃ M' : zz_M, b_X2_walkOn_31 (f_X2_walkOnR n) k 66 (nI dp) (nI row) (nI v) M = some ((), M') ∧ mw_at f w (e * 4 ^ d) ((4 * row + v) * 4 ^ d) M M' ∧ ms_RV M' 67 X.2 ∧ me_same (fun q => q = 66 ∨ 69 ≤ q ∧ q < 73 ∨ 76 + 2 * dp ≤ q ∧ q < 88) M M' := by
      intro e
      induction e with
      | zero =>
        intro k v M hk hv h2 h3 h6 hK hR
        obtain ⟨k, rfl⟩ : ∃ j, k = j + 1 := ⟨k - 1, by omega⟩
        have : v = 4 := by omega
        subst this
        unfold b_X2_walkOn_31
        rw [if_pos (by decide)]
        refine ⟨M, rfl, ?_, hR, me_same.rf⟩
        rw [Nat.zero_mul]
        exact ⟨rfl, rfl, rfl, rfl, rfl⟩
      | succ e ih =>
        intro k v M hk hv h2 h3 h6 hK hR
        obtain ⟨k, rfl⟩ : ∃ j, k = j + 1 := ⟨k - 1, by omega⟩
        have hv4 : v < 4 := by omega
        unfold b_X2_walkOn_31
        rw [if_neg (me_ge (y := 4) v 4 rfl (by omega) (by decide)), if_pos (me_in (by omega) (by decide)), me_n (by omega), me_wr, me_wr]
        obtain ⟨M1, hM1, hK1, hR1, hS1⟩ := e_X2_dipNext (dp := dp) (by omega) hv4 hK hR hok
        have b66 : zz_i M1 66 = zz_i M 66 := hS1.at (by omega)
        have hx : (4 : Int32) * nI row + nI v = nI (4 * row + v) := by rw [show (4 : Int32) = nI 4 from rfl, pk_mul, nI_add]
        rw [hM1, zz_bd_some, nI_1, hx]
        obtain ⟨M2, hM2, hW2, hR2, hS2⟩ := e_X2_walk (f := f) (w := w) (kd := kd) hN d n (dp + 1) (4 * row + v) M1 (ms_dv kd X v) (by omega) (by omega) (by rw [Nat.pow_succ]; omega) (by rw [b66, h2]) (by rw [b66, h3]) (by rw [b66]; exact h6) hK1 hR1 (ms_dv_ok hv4 hok) (by
          intro i hi
          have q := hf (v * 4 ^ d + i) (by
            rw [hpd]
            have : v * 4 ^ d + 4 ^ d ≤ 4 * 4 ^ d := by rw [← Nat.succ_mul]; exact Nat.mul_le_mul_right _ (by omega)
            omega)
          rw [ms_row_step kd hv4 hi] at q
          rw [← q, hpd]
          congr 1
          rw [Nat.add_mul, ← Nat.add_assoc, ← Nat.mul_assoc, Nat.mul_comm row 4])
        rw [hM2, zz_bd_some, me_wr, me_wr, me_wr, nI_1]
        have e3 : 66 + 1 + 1 + 1 + v = 67 + 2 + v := by omega
        rw [e3]
        have hR3 : ms_RV (zz_si (zz_si M2 (67 + 2 + v) 1 (zz_i M (67 + 2 + v) 1)) (67 + 2 + v) 2 (zz_i M (67 + 2 + v) 2)) 67 X.2 := by
          rw [hR.2.2.2 v hv4 1 (by omega), hR.2.2.2 v hv4 2 (by omega)]
          refine ((hR2.u _ hv4 (by omega)).u _ hv4 (by omega)).eqv (fun q hq => ?_)
          by_cases q2 : q = 4 + 4 * v + 2
          · rw [ms_u_hit q2, q2]
          · rw [ms_u_ne q2]
            by_cases q1 : q = 4 + 4 * v + 1
            · rw [ms_u_hit q1, q1]
            · rw [ms_u_ne q1]
              unfold ms_dv
              simp only
              rw [ms_u_ne q2, ms_u_ne q1]
        have b3 : zz_i (zz_si (zz_si M2 (67 + 2 + v) 1 (zz_i M (67 + 2 + v) 1)) (67 + 2 + v) 2 (zz_i M (67 + 2 + v) 2)) 66 = zz_i M2 66 := by
          funext j
          rw [me_ine (by omega), me_ine (by omega)]
        have hS3 : me_same (fun q => q = 66 ∨ 69 ≤ q ∧ q < 73 ∨ 76 + 2 * dp ≤ q ∧ q < 88) M (zz_si (zz_si M2 (67 + 2 + v) 1 (zz_i M (67 + 2 + v) 1)) (67 + 2 + v) 2 (zz_i M (67 + 2 + v) 2)) := ((hS1.wk (fun q hq => by omega)).tr (hS2.wk (fun q hq => by omega))).tr ((me_same.si (by omega)).tr (me_same.si (by omega)))
        have hW3 := hW2.eqs b66.symm b3
        have h6' : zz_i M2 66 6 = -1 ∨ 0 ≤ zz_i M2 66 6 := by
          rw [hW2.2.2.1, b66]
          refine mw_F trivial _ _ _ ?_ h6
          have h9 : (4 * row + v + 1) * 4 ^ d ≤ (4 * row + 4) * 4 ^ d := Nat.mul_le_mul_right _ (by omega)
          have h10 : (4 * row + 4) * 4 ^ d = (row + 1) * 4 ^ (d + 1) := by rw [hpd, ← Nat.mul_assoc]; congr 1; omega
          rw [Nat.succ_mul] at h9
          omega
        obtain ⟨M4, hM4, hW4, hR4, hS4⟩ := ih k (v + 1) _ (by omega) (by omega) (by rw [b3]; exact (hW2.2.2.2.1.trans (by rw [b66])).trans h2) (by rw [b3]; exact (hW2.2.2.2.2.trans (by rw [b66])).trans h3) (by rw [b3]; exact h6') (hK.fr (hS3.at (by omega)) (hS3.at (by omega))) hR3
        refine ⟨M4, hM4, ?_, hR4, hS3.tr hS4⟩
        have := hW3.tr (e := e * 4 ^ d) (M2 := M4) (by rw [← Nat.succ_mul]; exact hW4)
        rw [show (e + 1) * 4 ^ d = 4 ^ d + e * 4 ^ d by rw [Nat.succ_mul, Nat.add_comm]]
        exact this
    obtain ⟨M', a1, a2, a3, a4⟩ := loop 4 zz_fuel 0 M (by decide) (by omega) h2 h3 h6 hK hR
    refine ⟨M', a1, ?_, a3, a4⟩
    rw [hpd, show row * (4 * 4 ^ d) = (4 * row + 0) * 4 ^ d by rw [Nat.add_zero, ← Nat.mul_assoc, Nat.mul_comm row 4]]
    exact a2
theorem e_X2_walks {M : zz_M} {r a N : Nat} {w kd : Int32} {X : ms_X} (hN : N ≤ 6) (hK : ms_KC M a kd X.1) (hR : ms_RV M r X.2) (hok : ms_okX X) (ha : a + 1 < 66 ∨ 88 ≤ a) (hr : r + 6 ≤ 66 ∨ 88 ≤ r) :
    ∃ M' : zz_M, f_X2_walk 66 r a (nI N) w M = some ((), M') ∧ zz_i M' 66 4 = ms_fold (ms_gC (fun i => ms_mn kd (ms_row kd N i X).1) w) (4 ^ N) 0 0 ∧ zz_i M' 66 5 = ms_fold (ms_gL (fun i => ms_mn kd (ms_row kd N i X).1)) (4 ^ N) 0 0 ∧ zz_i M' 66 6 = ms_F kd X w N ∧ me_same (fun q => 66 ≤ q ∧ q < 88) M M' := by
  obtain ⟨M1, hM1, hR1, hS1⟩ := e_X7_become (a := 67) (b := r) (by omega) hR hok.2
  obtain ⟨M2, hM2, hK2, hS2⟩ := e_X0_become (a := 74) (hK.fr (hS1.at (by omega)) (hS1.at (by omega))) (by omega)
  have hR2 : ms_RV M2 67 X.2 := hR1.fr (fun q _ _ => hS2.at (by omega))
  have z0 : zz_n (0 : Int32) = 0 := rfl
  have i0 : zz_in (0 : Int32) 7 = true := rfl
  unfold f_X2_walk
  rw [show 66 + 1 = 67 from rfl, hM1, zz_bd_some, if_pos i0, z0, show 66 + 7 + 1 + 2 * 0 = 74 from rfl, hM2, zz_bd_some, me_wr, me_wr, me_wr, me_wr, me_wr]
  have hS3 : me_same (fun q => q = 66) M2 (zz_si (zz_si (zz_si (zz_si (zz_si M2 66 2 (nI N)) 66 3 w) 66 4 0) 66 5 0) 66 6 (-1)) := ((((me_same.s1).tr (me_same.s1)).tr (me_same.s1)).tr (me_same.s1)).tr (me_same.s1)
  obtain ⟨M4, hM4, hW4, _, hS4⟩ := e_X2_walk (f := fun i => ms_mn kd (ms_row kd N i X).1) (w := w) (kd := kd) hN N 8 0 0 (zz_si (zz_si (zz_si (zz_si (zz_si M2 66 2 (nI N)) 66 3 w) 66 4 0) 66 5 0) 66 6 (-1)) X (by omega) (by omega) (by decide) (by simp (disch := omega) only [me_ine, me_hit]) (by simp (disch := omega) only [me_ine, me_hit]) (by simp (disch := omega) only [me_ine, me_hit]; exact Or.inl trivial) (hK2.fr (hS3.at (by omega)) (hS3.at (by omega))) (hR2.fr (fun q _ _ => hS3.at (by omega))) hok (fun i _ => by rw [Nat.zero_mul, Nat.zero_add])
  have hM4 : f_X2_walkOn 66 0 0 _ = some ((), M4) := hM4
  rw [hM4, zz_bd_some]
  obtain ⟨c1, c2, c3, _, _⟩ := hW4
  simp (disch := omega) only [me_ine, me_hit, Nat.zero_mul] at c1 c2 c3
  exact ⟨M4, rfl, c1, c2, c3, (hS1.wk (fun q hq => by omega)).tr ((hS2.wk (fun q hq => by omega)).tr ((hS3.wk (fun q hq => by omega)).tr (hS4.wk (fun q hq => by omega))))⟩
theorem e_X8_few2 {a r : Nat} {kd w : Int32} {X : ms_X} (hok : ms_okX X) (ha : a + 1 < 66 ∨ 88 ≤ a) : ∀ (d n i : Nat) (M : zz_M), d < n → i + d = 7 → ms_KC M a kd X.1 → ms_RV M 2 X.2 →
    ∃ M' : zz_M, b_X8_fewestDips_2 n 0 a w (nI i) M = some ((ms_few (ms_F kd X w) d i).1, M') ∧ (0 ≤ (ms_few (ms_F kd X w) d i).1 → zz_i M' 66 6 = (ms_few (ms_F kd X w) d i).2) ∧ me_same (fun q => 66 ≤ q ∧ q < 88) M M'
  | 0, n + 1, i, M, _, hi, hK, hR => by
    have : i = 7 := by omega
    subst this
    unfold b_X8_fewestDips_2
    rw [if_pos (by decide)]
    exact ⟨M, rfl, fun h => absurd (show (0 : Int32) ≤ -1 from h) (by decide), me_same.rf⟩
  | d + 1, n + 1, i, M, hd, hi, hK, hR => by
    unfold b_X8_fewestDips_2
    rw [if_neg (me_nlt (y := 6) 6 i rfl (by omega) (by decide))]
    obtain ⟨M1, hM1, _, _, h6, hS1⟩ := e_X2_walks (N := i) (w := w) (by omega) hK hR hok ha (by omega)
    rw [show 1 + 1 = 2 from rfl, hM1, zz_bd_some, h6]
    unfold ms_few
    by_cases q : 0 ≤ ms_F kd X w i
    · rw [if_neg (by grind), if_pos q]
      exact ⟨M1, rfl, fun _ => h6, hS1⟩
    · rw [if_pos (by grind), if_neg q, me_wr, nI_1]
      obtain ⟨M2, hM2, h62, hS2⟩ := e_X8_few2 (r := r) (w := w) hok ha d n (i + 1) M1 (by omega) (by omega) (hK.fr (hS1.at (by omega)) (hS1.at (by omega))) (hR.fr (fun q _ _ => hS1.at (by omega)))
      exact ⟨M2, hM2, h62, hS1.tr hS2⟩
theorem e_X8_few {M : zz_M} {a : Nat} {kd w : Int32} {X : ms_X} (hok : ms_okX X) (ha : a + 1 < 66 ∨ 88 ≤ a) (hK : ms_KC M a kd X.1) (hR : ms_RV M 2 X.2) :
    ∃ M' : zz_M, f_X8_fewestDips 0 a w M = some ((ms_few (ms_F kd X w) 7 0).1, M') ∧ (0 ≤ (ms_few (ms_F kd X w) 7 0).1 → zz_i M' 66 6 = (ms_few (ms_F kd X w) 7 0).2) ∧ me_same (fun q => 66 ≤ q ∧ q < 88) M M' :=
  e_X8_few2 (r := 0) hok ha 7 zz_fuel 0 M (by decide) (by omega) hK hR
/-! A row of dips into one vat. -/
def ms_bh (kd wx : Int32) : Nat → List Int32 × Int32 × Int32 → List Int32 × Int32 × Int32
  | 0, t => t
  | n + 1, t => ms_bh kd wx n (ms_dip kd t.1 wx t.2.1 t.2.2)
theorem e_X8_beh27 {kd wx : Int32} {N : Nat} (hN : N ≤ 40) : ∀ (d n i : Nat) (M : zz_M) (t : List Int32 × Int32 × Int32), d < n → i + d = N → ms_KC M 63 kd t.1 → zz_i M 65 0 = wx → zz_i M 65 1 = t.2.1 → zz_i M 65 2 = t.2.2 → ms_vok wx t.2.1 t.2.2 →
    ∃ M' : zz_M, b_X8_minutesBehind_27 n 0 (nI N) (nI i) M = some (ms_mn kd (ms_bh kd wx d t).1, M') ∧ me_same (fun q => 63 ≤ q ∧ q < 66) M M'
  | 0, n + 1, i, M, t, _, hi, hK, h0, h1, h2, hv => by
    have : i = N := by omega
    subst this
    unfold b_X8_minutesBehind_27
    rw [if_pos (nI_le (Nat.le_refl _) (by omega)), e_X0_minutes hK, zz_bd_some]
    exact ⟨M, rfl, me_same.rf⟩
  | d + 1, n + 1, i, M, t, hd, hi, hK, h0, h1, h2, hv => by
    unfold b_X8_minutesBehind_27
    obtain ⟨M1, hM1, hK1, g1, g2, g3, hS1⟩ := e_X0_dipInto (b := 65) hK (by decide) h0 h1 h2 hv
    rw [if_neg (nI_ge (by omega) (by omega)), hM1, zz_bd_some, me_wr, nI_1]
    obtain ⟨M2, hM2, hS2⟩ := e_X8_beh27 hN d n (i + 1) M1 (ms_dip kd t.1 wx t.2.1 t.2.2) (by omega) (by omega) hK1 (by rw [g3 0 (by decide) (by decide), h0]) g1 g2 (ms_dip_ok hK.2.2.2.2.2 hv).2
    exact ⟨M2, hM2, (hS1.wk (fun q hq => by omega)).tr hS2⟩
theorem e_X8_beh {M : zz_M} {a r v N : Nat} {kd0 kd : Int32} {L : List Int32} {V : Nat → Int32} (hN : N ≤ 40) (hv : v < 4) (ha : a + 1 < 63) (hr : r + 6 ≤ 63) (hK : ms_KC M a kd0 L) (hR : ms_RV M r V) (hok : ms_okV V) :
    ∃ M' : zz_M, f_X8_minutesBehind 0 a kd (r + 2 + v) (nI N) M = some (ms_mn kd (ms_bh kd (V (4 + 4 * v)) N (L, V (4 + 4 * v + 1), V (4 + 4 * v + 2))).1, M') ∧ me_same (fun q => 63 ≤ q ∧ q < 66) M M' := by
  obtain ⟨M1, hM1, hK1, hS1⟩ := e_X0_become (a := 63) hK (by omega)
  have c0 : zz_i M (r + 2 + v) 0 = V (4 + 4 * v) := hR.2.2.2 v hv 0 (by omega)
  have c1 := hR.2.2.2 v hv 1 (by omega)
  have c2 := hR.2.2.2 v hv 2 (by omega)
  have c3 := hR.2.2.2 v hv 3 (by omega)
  have b1 : zz_i M1 (r + 2 + v) = zz_i M (r + 2 + v) := hS1.at (by omega)
  rw [← b1] at c0 c1 c2 c3
  have q0 : zz_bit (V (4 + 4 * v)) = true := by rcases (hok.2.2 v hv).1.1 with z | z <;> rw [z] <;> rfl
  have q3 : zz_bit (V (4 + 4 * v + 3)) = true := by rcases (hok.2.2 v hv).2 with z | z <;> rw [z] <;> rfl
  unfold f_X8_minutesBehind f_X6_become
  rw [hM1]
  simp (disch := omega) only [zz_bd_some, me_wr, me_ine, c0, c1, c2, c3, q0, q3, if_true]
  refine (fun h => ?_) (e_X8_beh27 (kd := kd) (wx := V (4 + 4 * v)) hN N zz_fuel 0 (zz_si (zz_si (zz_si (zz_si (zz_si M1 63 0 kd) 65 0 (V (4 + 4 * v))) 65 1 (V (4 + 4 * v + 1))) 65 2 (V (4 + 4 * v + 2))) 65 3 (V (4 + 4 * v + 3))) (L, V (4 + 4 * v + 1), V (4 + 4 * v + 2)) (show N < 5000 by omega) (by omega) ((hK1.kd kd).fr (by funext j; simp (disch := omega) only [me_ine]) (by funext j; simp (disch := omega) only [me_ine])) (by simp (disch := omega) only [me_ine, me_hit]) (by simp (disch := omega) only [me_ine, me_hit]) (by simp (disch := omega) only [me_ine, me_hit]) (hok.2.2 v hv).1)
  obtain ⟨M2, hM2, hS2⟩ := h
  exact ⟨M2, hM2, (hS1.wk (fun q hq => by omega)).tr ((((((me_same.si (by omega)).tr (me_same.si (by omega))).tr (me_same.si (by omega))).tr (me_same.si (by omega))).tr (me_same.si (by omega))).tr hS2)⟩
theorem e_X9_beh3 {c v : Nat} {kd wx : Int32} {N : Nat} (hc : c < 10) (hv : v < 4) (hN : N ≤ 40) (a : Nat) : ∀ (d n i : Nat) (M : zz_M) (t : List Int32 × Int32 × Int32), d < n → i + d = N → ms_KM M 130 (20 + 42 * c) kd t.1 → zz_i M 130 (4 + 4 * v) = wx → zz_i M 130 (4 + 4 * v + 1) = t.2.1 → zz_i M 130 (4 + 4 * v + 2) = t.2.2 → ms_vok wx t.2.1 t.2.2 →
    ∃ M' : zz_M, b_X9_burnsBehind_3 n a (nI c) (nI v) (nI N) (nI i) M = some (ms_mn kd (ms_bh kd wx d t).1, M') ∧ mr_same (fun j => 20 + 42 * c ≤ j ∧ j < 20 + 42 * c + 42 ∨ 4 ≤ j ∧ j < 20) M M'
  | 0, n + 1, i, M, t, _, hi, hK, h0, h1, h2, hw => by
    have : i = N := by omega
    subst this
    unfold b_X9_burnsBehind_3
    rw [if_pos (nI_le (Nat.le_refl _) (by omega)), e_X9_burnsOf hc hK, zz_bd_some]
    exact ⟨M, rfl, mr_same.rf⟩
  | d + 1, n + 1, i, M, t, hd, hi, hK, h0, h1, h2, hw => by
    unfold b_X9_burnsBehind_3
    obtain ⟨M1, hM1, hK1, g1, g2, hS1⟩ := e_X9_dips hc hv hK h0 h1 h2 hw a
    rw [if_neg (nI_ge (by omega) (by omega)), hM1, zz_bd_some, me_wr, nI_1]
    obtain ⟨M2, hM2, hS2⟩ := e_X9_beh3 hc hv hN a d n (i + 1) M1 (ms_dip kd t.1 wx t.2.1 t.2.2) (by omega) (by omega) hK1 (by rw [hS1.at (by omega), h0]) g1 g2 (ms_dip_ok hK.2.2.2 hw).2
    exact ⟨M2, hM2, (hS1.wk (fun j hj => by omega)).tr hS2⟩
theorem e_X9_beh {M : zz_M} {c v N : Nat} {kd : Int32} {L : List Int32} {V : Nat → Int32} (hc : c < 10) (hv : v < 4) (hN : N ≤ 40) (hK : ms_KM M 130 (20 + 42 * c) kd L) (hR : ms_RW M 130 V) (hok : ms_okV V) (a : Nat) :
    ∃ M' : zz_M, f_X9_burnsBehind a (nI c) (nI v) (nI N) M = some (ms_mn kd (ms_bh kd (V (4 + 4 * v)) N (L, V (4 + 4 * v + 1), V (4 + 4 * v + 2))).1, M') ∧ mr_same (fun j => 20 + 42 * c ≤ j ∧ j < 20 + 42 * c + 42 ∨ 4 ≤ j ∧ j < 20) M M' :=
  e_X9_beh3 hc hv hN a N zz_fuel 0 M (L, V (4 + 4 * v + 1), V (4 + 4 * v + 2)) (show N < 5000 by omega) (by omega) hK (hR _ (by omega) (by omega)) (hR _ (by omega) (by omega)) (hR _ (by omega) (by omega)) (hok.2.2 v hv).1
