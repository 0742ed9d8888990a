/-! The reader. -/
def ms_eqs (N : Nat → Int64) (L : List Int32) : Nat → Nat → Bool
  | 0, _ => true
  | d + 1, i => decide (N i = (ms_get L i).toInt64) && ms_eqs N L d (i + 1)
def ms_shown (N : Nat → Int64) (n : Nat) (L : List Int32) : Bool := decide (L.length = n) && ms_eqs N L L.length 0
theorem ms_eqs_iff (N : Nat → Int64) (L : List Int32) : ∀ (d i : Nat), ms_eqs N L d i = true ↔ ∀ j, i ≤ j → j < i + d → N j = (ms_get L j).toInt64
  | 0, i => ⟨fun _ j h1 h2 => by omega, fun _ => rfl⟩
  | d + 1, i => by
    unfold ms_eqs
    rw [Bool.and_eq_true, decide_eq_true_eq, ms_eqs_iff N L d (i + 1)]
    constructor
    · rintro ⟨h1, h2⟩ j h3 h4
      by_cases q : j = i
      · rw [q]; exact h1
      · exact h2 j (by omega) (by omega)
    · intro h
      exact ⟨h i (by omega) (by omega), fun j h1 h2 => h j (by omega) (by omega)⟩
theorem ms_shown_iff (N : Nat → Int64) (n : Nat) (L : List Int32) : ms_shown N n L = true ↔ L.length = n ∧ ∀ j, j < n → N j = (ms_get L j).toInt64 := by
  unfold ms_shown
  rw [Bool.and_eq_true, decide_eq_true_eq, ms_eqs_iff]
  constructor
  · rintro ⟨h1, h2⟩
    exact ⟨h1, fun j hj => h2 j (by omega) (by omega)⟩
  · rintro ⟨h1, h2⟩
    exact ⟨h1, fun j _ hj => h2 j (by omega)⟩
theorem ms_get_cons {x : Int32} {L : List Int32} {j : Nat} (h : j < L.length) : ms_get (x :: L) j = ms_get L j := by
  rw [ms_get, if_neg (by omega)]
theorem ms_dv_len (kd : Int32) (X : ms_X) (v : Nat) : (ms_dv kd X v).1.length ≤ X.1.length ∨ ∃ x, (ms_dv kd X v).1 = x :: X.1 := ms_dip_len
theorem ms_row_ext (kd : Int32) : ∀ (d i : Nat) (X : ms_X), (ms_row kd d i X).1.length ≤ X.1.length + d ∧ ((ms_row kd d i X).1.length = X.1.length + d → ∀ j, j < X.1.length → ms_get (ms_row kd d i X).1 j = ms_get X.1 j)
  | 0, _, X => ⟨Nat.le_refl _, fun _ _ _ => rfl⟩
  | d + 1, i, X => by
    obtain ⟨h1, h2⟩ := ms_row_ext kd d i (ms_dv kd X (i / 4 ^ d % 4))
    have h3 := ms_dv_len kd X (i / 4 ^ d % 4)
    unfold ms_row
    rcases h3 with h3 | ⟨x, h3⟩
    · exact ⟨by omega, fun h => by omega⟩
    · have hl : (ms_dv kd X (i / 4 ^ d % 4)).1.length = X.1.length + 1 := by rw [h3]; rfl
      refine ⟨by omega, fun h j hj => ?_⟩
      rw [h2 (by omega) j (by omega), h3, ms_get_cons hj]
def ms_gP (p : Nat → Bool) (i : Nat) (x : Int32) : Int32 := if 0 ≤ x then x else if p i = true then nI i else x
theorem ms_gP_stop {p : Nat → Bool} : ∀ (d i : Nat) {x : Int32}, 0 ≤ x → ms_fold (ms_gP p) d i x = x
  | 0, _, _, _ => rfl
  | d + 1, i, x, h => by
    have e : ms_gP p i x = x := by rw [ms_gP, if_pos h]
    rw [ms_fold, e, ms_gP_stop d (i + 1) h]
theorem ms_gP_no {p : Nat → Bool} : ∀ (d i : Nat) {x : Int32}, (∀ j, i ≤ j → j < i + d → p j = false) → ms_fold (ms_gP p) d i x = x
  | 0, _, _, _ => rfl
  | d + 1, i, x, h => by
    have e : ms_gP p i x = x := by
      rw [ms_gP, h i (by omega) (by omega)]
      split <;> rfl
    rw [ms_fold, e, ms_gP_no d (i + 1) (fun j h1 h2 => h j (by omega) (by omega))]
theorem ms_gP_F {p : Nat → Bool} : ∀ (d i : Nat) (x : Int32), i + d ≤ 10000 → x = -1 ∨ 0 ≤ x → ms_fold (ms_gP p) d i x = -1 ∨ 0 ≤ ms_fold (ms_gP p) d i x
  | 0, _, _, _, h => h
  | d + 1, i, x, hi, h => by
    rw [ms_fold]
    refine ms_gP_F d (i + 1) _ (by omega) ?_
    unfold ms_gP
    split
    · exact Or.inr (by assumption)
    · split
      · exact Or.inr (nI_pos' (by omega))
      · exact h
theorem e_X2_seek {p : Nat → Bool} {kd : Int32} {N : Nat → Int64} {n a1 : Nat} (hn : n ≤ 6) (ha : a1 = 119 + 1 + 2 * 0 ∨ 120 ≤ a1) : ∀ (d k dp row : Nat) (M : zz_M) (X : ms_X), d < k → dp + d = n → row < 4 ^ dp → zz_i M a1 1 = nI n → (∀ j, j < 40 → zz_j M (a1 + 1) j = N j) → ms_KC M (74 + 2 * dp) kd X.1 → ms_RV M 67 X.2 → ms_okX X → X.1.length = dp → (∀ j, j < dp → N j = (ms_get X.1 j).toInt64) → (∀ i, i < 4 ^ d → p (row * 4 ^ d + i) = ms_shown N n (ms_row kd d i X).1) →
    ∃ M' : zz_M, f_X2_seekR k 66 a1 (nI dp) (nI row) M = some (ms_fold (ms_gP p) (4 ^ d) (row * 4 ^ d) (-1), M') ∧ ms_RV M' 67 X.2 ∧ me_same (fun q => 69 ≤ q ∧ q < 73 ∨ 76 + 2 * dp ≤ q ∧ q < 88) M M'
  | 0, k + 1, dp, row, M, X, _, hd, hrow, h1, hN, hK, hR, hok, hX, hpre, hp => by
    have : dp = n := by omega
    subst this
    have q := hp 0 (by decide)
    rw [Nat.pow_zero, Nat.mul_one, Nat.add_zero] at q
    have q : p row = ms_shown N dp X.1 := q
    have q1 : p row = true := by rw [q, ms_shown_iff]; exact ⟨hX, hpre⟩
    have hp4 : 4 ^ dp ≤ 4 ^ 6 := Nat.pow_le_pow_right (by decide) (by omega)
    unfold f_X2_seekR
    rw [h1, if_pos (nI_le (Nat.le_refl _) (by omega))]
    refine ⟨M, ?_, hR, me_same.rf⟩
    rw [Nat.pow_zero, Nat.mul_one]
    show _ = some (ms_gP p row (-1), M)
    rw [ms_gP, if_neg (by decide), if_pos q1]
  | d + 1, k + 1, dp, row, M, X, hdk, hd, hrow, h1, hN, hK, hR, hok, hX, hpre, hp => by
    have hp6 : 4 ^ dp ≤ 4 ^ 6 := Nat.pow_le_pow_right (by decide) (by omega)
    have hpd : 4 ^ (d + 1) = 4 * 4 ^ d := by rw [Nat.pow_succ, Nat.mul_comm]
    have hrow6 : row < 4096 := Nat.lt_of_lt_of_le hrow hp6
    have h1d : 1 ≤ 4 ^ d := Nat.pow_pos (by decide)
    have hall : (row + 1) * 4 ^ (d + 1) ≤ 4096 := by
      have h1 : (row + 1) * 4 ^ (d + 1) ≤ 4 ^ dp * 4 ^ (d + 1) := Nat.mul_le_mul_right _ hrow
      rw [← Nat.pow_add, hd] at h1
      exact Nat.le_trans h1 (Nat.pow_le_pow_right (by decide) hn)
    have hall4 : (4 * row + 4) * 4 ^ d ≤ 4096 := by
      rw [show (4 * row + 4) * 4 ^ d = (row + 1) * 4 ^ (d + 1) by rw [hpd, ← Nat.mul_assoc]; congr 1; omega]
      exact hall
    unfold f_X2_seekR
    rw [h1, if_neg (nI_ge (by omega) (by omega)), if_pos (me_lt (y := 6) dp 6 rfl (by omega) (by decide))]
    have loop : ∀ (e m v : Nat) (M : zz_M) (x4 : Int32), e < m → v + e = 4 → x4 = -1 ∨ 0 ≤ x4 → zz_i M a1 1 = nI n → (∀ j, j < 40 → zz_j M (a1 + 1) j = N j) → ms_KC M (74 + 2 * dp) kd X.1 → ms_RV M 67 X.2 →
        ∃ M' : zz_M, b_X2_seek_22 (f_X2_seekR k) m 66 a1 (nI dp) (nI row) x4 (nI v) M = some (ms_fold (ms_gP p) (e * 4 ^ d) ((4 * row + v) * 4 ^ d) x4, M') ∧ ms_RV M' 67 X.2 ∧ me_same (fun q => 69 ≤ q ∧ q < 73 ∨ 76 + 2 * dp ≤ q ∧ q < 88) M M' := by
      intro e
      induction e with
      | zero =>
        intro m v M x4 hk hv hx h1 hN hK hR
        obtain ⟨m, rfl⟩ : ∃ j, m = j + 1 := ⟨m - 1, by omega⟩
        have : v = 4 := by omega
        subst this
        unfold b_X2_seek_22
        rw [if_pos (by decide), Nat.zero_mul]
        exact ⟨M, rfl, hR, me_same.rf⟩
      | succ e ih =>
        intro m v M x4 hk hv hx h1 hN hK hR
        obtain ⟨m, rfl⟩ : ∃ j, m = j + 1 := ⟨m - 1, by omega⟩
        have hv4 : v < 4 := by omega
        unfold b_X2_seek_22
        rw [if_neg (me_ge (y := 4) v 4 rfl (by omega) (by decide))]
        by_cases hx0 : 0 ≤ x4
        · rw [if_pos hx0, ms_gP_stop _ _ hx0]
          exact ⟨M, rfl, hR, me_same.rf⟩
        have hx : x4 = -1 := hx.resolve_right hx0
        rw [if_neg (by rw [hx]; decide), if_pos (me_in (by omega) (by decide)), me_n (show v < 2 ^ 31 by omega), me_wr, me_wr]
        obtain ⟨M1, hM1, hK1, hR1, hS1⟩ := e_X2_dipNext (dp := dp) (by omega) hv4 hK hR hok
        have hok1 := ms_dv_ok (kd := kd) hv4 hok
        have e1 : 66 + 7 + 1 + 2 * (dp + 1) = 74 + 2 * (dp + 1) := by omega
        have b1 : zz_i M1 a1 1 = nI n := by rw [hS1.at (by omega)]; exact h1
        have bN : ∀ j, j < 40 → zz_j M1 (a1 + 1) j = N j := fun j hj => by rw [hS1.2]; exact hN j hj
        rw [hM1, zz_bd_some, nI_1, if_pos (me_in (show dp + 1 < 7 by omega) (by decide)), me_n (show dp + 1 < 2 ^ 31 by omega), e1, hK1.2.1]
        have hsub : ∀ i, i < 4 ^ d → p ((4 * row + v) * 4 ^ d + i) = ms_shown N n (ms_row kd d i (ms_dv kd X v)).1 := by
          intro i hi
          have q := hp (v * 4 ^ d + i) (by
            rw [hpd]
            have : v * 4 ^ d + 4 ^ d ≤ 4 * 4 ^ d := by rw [← Nat.succ_mul]; exact Nat.mul_le_mul_right _ (by omega)
            omega)
          rw [ms_row_step kd hv4 hi] at q
          rw [← q, hpd]
          congr 1
          rw [Nat.add_mul, ← Nat.add_assoc, ← Nat.mul_assoc, Nat.mul_comm row 4]
        have hrest : ∀ (y : Int32) (M2 : zz_M), y = ms_fold (ms_gP p) (4 ^ d) ((4 * row + v) * 4 ^ d) x4 → me_same (fun q => 69 ≤ q ∧ q < 73 ∨ 76 + 2 * dp ≤ q ∧ q < 88) M M2 → ms_RV M2 67 (ms_dv kd X v).2 →
            ∃ M' : zz_M, b_X2_seek_123 (f_X2_seekR k) (b_X2_seek_22 (f_X2_seekR k) m) 66 a1 (nI dp) (nI row) y (nI v) (66 + 1 + 1 + 1 + v) (zz_i M (66 + 1 + 1 + 1 + v) 1) (zz_i M (66 + 1 + 1 + 1 + v) 2) M2 = some (ms_fold (ms_gP p) ((e + 1) * 4 ^ d) ((4 * row + v) * 4 ^ d) x4, M') ∧ ms_RV M' 67 X.2 ∧ me_same (fun q => 69 ≤ q ∧ q < 73 ∨ 76 + 2 * dp ≤ q ∧ q < 88) M M' := by
          intro y M2 hy hS2 hR2
          have e3 : 66 + 1 + 1 + 1 + v = 67 + 2 + v := by omega
          unfold b_X2_seek_123
          rw [me_wr, me_wr, me_wr, nI_1, e3]
          have hR3 : ms_RV (zz_si (zz_si M2 (67 + 2 + v) 1 (zz_i M (67 + 2 + v) 1)) (67 + 2 + v) 2 (zz_i M (67 + 2 + v) 2)) 67 X.2 := by
            rw [hR.2.2.2 v hv4 1 (by omega), hR.2.2.2 v hv4 2 (by omega)]
            refine ((hR2.u _ hv4 (by omega)).u _ hv4 (by omega)).eqv (fun q hq => ?_)
            by_cases q2 : q = 4 + 4 * v + 2
            · rw [ms_u_hit q2, q2]
            · rw [ms_u_ne q2]
              by_cases q1 : q = 4 + 4 * v + 1
              · rw [ms_u_hit q1, q1]
              · rw [ms_u_ne q1]
                unfold ms_dv
                simp only
                rw [ms_u_ne q2, ms_u_ne q1]
          have hS3 : me_same (fun q => 69 ≤ q ∧ q < 73 ∨ 76 + 2 * dp ≤ q ∧ q < 88) M (zz_si (zz_si M2 (67 + 2 + v) 1 (zz_i M (67 + 2 + v) 1)) (67 + 2 + v) 2 (zz_i M (67 + 2 + v) 2)) := hS2.tr ((me_same.si (by omega)).tr (me_same.si (by omega)))
          have h9 : (4 * row + v + 1) * 4 ^ d ≤ (4 * row + 4) * 4 ^ d := Nat.mul_le_mul_right _ (by omega)
          rw [Nat.succ_mul] at h9
          have hyF : y = -1 ∨ 0 ≤ y := by
            rw [hy]
            exact ms_gP_F _ _ _ (by omega) (Or.inl hx)
          obtain ⟨M4, hM4, hR4, hS4⟩ := ih m (v + 1) _ y (by omega) (by omega) hyF (by rw [hS3.at (by omega)]; exact h1) (fun j hj => by rw [hS3.2]; exact hN j hj) (hK.fr (hS3.at (by omega)) (hS3.at (by omega))) hR3
          refine ⟨M4, ?_, hR4, hS3.tr hS4⟩
          rw [hM4, hy, show (e + 1) * 4 ^ d = 4 ^ d + e * 4 ^ d by rw [Nat.succ_mul, Nat.add_comm], ms_fold_add, show (4 * row + (v + 1)) * 4 ^ d = (4 * row + v) * 4 ^ d + 4 ^ d by rw [← Nat.succ_mul]; rfl]
        have hS1' : me_same (fun q => 69 ≤ q ∧ q < 73 ∨ 76 + 2 * dp ≤ q ∧ q < 88) M M1 := hS1.wk (fun q hq => by omega)
        have hlen := ms_dv_len kd X v
        have hl40 := hok1.1.1
        by_cases ql : (ms_dv kd X v).1.length = dp + 1
        · obtain ⟨x, hx1⟩ : ∃ x, (ms_dv kd X v).1 = x :: X.1 := by
            rcases hlen with q | q
            · omega
            · exact q
          have hget : ms_get (ms_dv kd X v).1 dp = x := by rw [hx1, ms_get, if_pos hX.symm]
          have hlay : zz_i M1 (74 + 2 * (dp + 1) + 1) dp = x := by
            have := hK1.2.2.2.2.1.at (show dp < (ms_dv kd X v).1.length by omega)
            rw [Nat.zero_add, hget] at this
            exact this
          rw [ql, if_pos rfl, if_pos (me_in (show dp + 1 < 7 by omega) (by decide)), if_pos (me_in (show dp < 40 by omega) (by decide)), if_pos (me_in (show dp < 40 by omega) (by decide)), me_n (show dp < 2 ^ 31 by omega), hlay, bN dp (by omega)]
          by_cases qe : N dp = x.toInt64
          · rw [if_pos (show lg_cmp x.toInt64 (N dp) = 0 from (lg_cmp_eq _ _).mpr qe.symm)]
            have hx' : (4 : Int32) * nI row + nI v = nI (4 * row + v) := by rw [show (4 : Int32) = nI 4 from rfl, pk_mul, nI_add]
            rw [hx']
            obtain ⟨M2, hM2, hR2, hS2⟩ := e_X2_seek (p := p) (kd := kd) (N := N) hn ha d k (dp + 1) (4 * row + v) M1 (ms_dv kd X v) (by omega) (by omega) (by rw [Nat.pow_succ]; omega) b1 bN hK1 hR1 hok1 ql (fun j hj => by
              by_cases qj : j = dp
              · rw [qj, hget]; exact qe
              · rw [hx1, ms_get_cons (by omega)]; exact hpre j (by omega)) hsub
            rw [hM2, zz_bd_some]
            exact hrest _ M2 (by rw [hx]) (hS1'.tr (hS2.wk (fun q hq => by omega))) hR2
          · rw [if_neg (show ¬ lg_cmp x.toInt64 (N dp) = 0 from fun z => qe ((lg_cmp_eq _ _).mp z).symm)]
            refine hrest _ M1 ?_ hS1' hR1
            rw [ms_gP_no]
            intro j hj1 hj2
            obtain ⟨i, rfl⟩ : ∃ i, j = (4 * row + v) * 4 ^ d + i := ⟨j - (4 * row + v) * 4 ^ d, by omega⟩
            rw [hsub i (by omega), Bool.eq_false_iff]
            intro z
            rw [ms_shown_iff] at z
            obtain ⟨g1, g2⟩ := ms_row_ext kd d i (ms_dv kd X v)
            have g3 := g2 (by rw [z.1, ql]; omega) dp (by omega)
            have g4 := z.2 dp (by omega)
            rw [g3, hget] at g4
            exact qe g4
        · rw [if_neg (show ¬ nI (ms_dv kd X v).1.length = nI (dp + 1) by rw [nI_eq (by omega) (by omega)]; exact ql)]
          refine hrest _ M1 ?_ hS1' hR1
          rw [ms_gP_no]
          intro j hj1 hj2
          obtain ⟨i, rfl⟩ : ∃ i, j = (4 * row + v) * 4 ^ d + i := ⟨j - (4 * row + v) * 4 ^ d, by omega⟩
          rw [hsub i (by omega), Bool.eq_false_iff]
          intro z
          rw [ms_shown_iff] at z
          obtain ⟨g1, g2⟩ := ms_row_ext kd d i (ms_dv kd X v)
          have : (ms_dv kd X v).1.length ≤ dp := by
            rcases hlen with q | ⟨x, q⟩
            · omega
            · rw [q] at ql
              exact absurd (by rw [List.length_cons, hX]) ql
          omega
    obtain ⟨M', a1', a2, a3⟩ := loop 4 zz_fuel 0 M (-1) (by decide) (by omega) (Or.inl rfl) h1 hN hK hR
    refine ⟨M', ?_, a2, a3⟩
    rw [hpd, show row * (4 * 4 ^ d) = (4 * row + 0) * 4 ^ d by rw [Nat.add_zero, ← Nat.mul_assoc, Nat.mul_comm row 4]]
    exact a1'
theorem e_X2_made {kd : Int32} {N : Nat → Int64} {V : Nat → Int32} {n s r : Nat} {M : zz_M} (hn : n ≤ 6) (hs : s < 4) (hr : r + 6 ≤ 66) (h1 : zz_i M (119 + 1 + 2 * s) 1 = nI n) (hN : ∀ j, j < 40 → zz_j M (119 + 1 + 2 * s + 1) j = N j) (hR : ms_RV M r V) (hok : ms_okV V) :
    ∃ M' : zz_M, f_X2_rowThatMade 66 r (119 + 1 + 2 * s) kd M = some (ms_fold (ms_gP (fun i => ms_shown N n (ms_row kd n i ([], V)).1)) (4 ^ n) 0 (-1), M') ∧ me_same (fun q => 66 ≤ q ∧ q < 88) M M' := by
  obtain ⟨M1, hM1, hR1, hS1⟩ := e_X7_become (a := 67) (b := r) (by omega) hR hok
  obtain ⟨M2, hM2, hK2, hS2⟩ := e_X0_strip (M := M1) (a := 74)
  have z0 : zz_n (0 : Int32) = 0 := rfl
  have i0 : zz_in (0 : Int32) 7 = true := rfl
  have e3 : me_same (fun q => q = 74) M2 (zz_si M2 74 0 kd) := me_same.s1
  have hSS : me_same (fun q => 66 ≤ q ∧ q < 88) M (zz_si M2 74 0 kd) := (hS1.wk (fun q hq => by omega)).tr ((hS2.wk (fun q hq => by omega)).tr (e3.wk (fun q hq => by omega)))
  obtain ⟨M4, hM4, _, hS4⟩ := e_X2_seek (p := fun i => ms_shown N n (ms_row kd n i ([], V)).1) (kd := kd) (N := N) (a1 := 119 + 1 + 2 * s) hn (by omega) n 8 0 0 (zz_si M2 74 0 kd) ([], V) (by omega) (by omega) (by decide) (by rw [hSS.at (by omega)]; exact h1) (fun j hj => by rw [hSS.2]; exact hN j hj) (hK2.kd kd) ((hR1.fr (fun q _ _ => hS2.at (by omega))).fr (fun q _ _ => e3.at (by omega))) ⟨ms_Lok.nil, hok⟩ rfl (fun j hj => absurd hj (Nat.not_lt_zero _)) (fun i _ => by rw [Nat.zero_mul, Nat.zero_add])
  rw [Nat.zero_mul] at hM4
  have hM4 : f_X2_seek 66 (119 + 1 + 2 * s) 0 0 _ = some (_, M4) := hM4
  refine ⟨M4, ?_, hSS.tr (hS4.wk (fun q hq => by omega))⟩
  unfold f_X2_rowThatMade
  rw [show 66 + 1 = 67 from rfl, hM1, zz_bd_some, if_pos i0, z0, show 66 + 7 + 1 + 2 * 0 = 74 from rfl, hM2, zz_bd_some, if_pos i0, me_wr, hM4, zz_bd_some]
theorem e_X9_shown23 {s c : Nat} {kd : Int32} {L : List Int32} {N : Nat → Int64} {M : zz_M} (hs : s < 4) (hc : c < 10) (hK : ms_KM M 130 (20 + 42 * c) kd L) (hN : ∀ j, j < 40 → zz_j M 137 (40 * s + j) = N j) (a : Nat) : ∀ (d n i : Nat), d < n → i + d = L.length → b_X9_isShown_23 n a (nI s) (nI c) 1 (nI i) M = some (if ms_eqs N L d i = true then 1 else 0, M)
  | 0, n + 1, i, _, hi => by
    have hl := hK.2.2.2.1
    unfold b_X9_isShown_23
    rw [if_neg (show ¬ (1 : Int32) = 0 by decide), e_X9_many hc, zz_bd_some, hK.2.1, if_pos (nI_le (by omega) (by omega)), if_pos me_bit1]
    rfl
  | d + 1, n + 1, i, hd, hi => by
    have hl := hK.2.2.2.1
    have e := hK.2.2.1.at (show i < L.length by omega)
    have i160 : zz_in (nI (40 * s + i)) 160 = true := me_in (by omega) (by decide)
    have n160 : zz_n (nI (40 * s + i)) = 40 * s + i := me_n (by omega)
    unfold b_X9_isShown_23 ms_eqs b_X9_isShown_66
    rw [if_neg (show ¬ (1 : Int32) = 0 by decide), e_X9_many hc, zz_bd_some, hK.2.1, if_neg (nI_ge (by omega) (by omega)), mr_40, if_pos i160, n160, e_X9_layerOf hc (i := i) (by omega) rfl, zz_bd_some, e, hN i (by omega)]
    by_cases q : N i = (ms_get L i).toInt64
    · rw [if_pos (show lg_cmp (N i) (ms_get L i).toInt64 = 0 from (lg_cmp_eq _ _).mpr q), me_wr, nI_1, decide_eq_true q, Bool.true_and]
      exact e_X9_shown23 hs hc hK hN a d n (i + 1) (by omega) (by omega)
    · rw [if_neg (show ¬ lg_cmp (N i) (ms_get L i).toInt64 = 0 from fun z => q ((lg_cmp_eq _ _).mp z)), me_wr, nI_1, decide_eq_false q, Bool.false_and, if_neg (show ¬ false = true by decide)]
      obtain ⟨n, rfl⟩ : ∃ m, n = m + 1 := ⟨n - 1, by omega⟩
      unfold b_X9_isShown_23
      rw [if_pos (show (0 : Int32) = 0 from rfl), if_pos me_bit0]
theorem e_X9_shown {s c n : Nat} {kd : Int32} {L : List Int32} {N : Nat → Int64} {M : zz_M} (hs : s < 4) (hc : c < 10) (hn : n ≤ 40) (hK : ms_KM M 130 (20 + 42 * c) kd L) (h1 : zz_i M 136 s = nI n) (hN : ∀ j, j < 40 → zz_j M 137 (40 * s + j) = N j) (a : Nat) : f_X9_isShown a (nI s) (nI c) M = some (if ms_shown N n L = true then 1 else 0, M) := by
  have hl := hK.2.2.2.1
  unfold f_X9_isShown b_X9_isShown_19 ms_shown
  rw [e_X9_many hc, zz_bd_some, hK.2.1, if_pos (me_in hs (by decide)), me_n (show s < 2 ^ 31 by omega), h1]
  by_cases q : L.length = n
  · rw [if_pos (show nI L.length = nI n by rw [q]), decide_eq_true q, Bool.true_and]
    exact e_X9_shown23 hs hc hK hN a L.length zz_fuel 0 (by show _ < 5000; omega) (by omega)
  · rw [if_neg (show ¬ nI L.length = nI n by rw [nI_eq (by omega) (by omega)]; exact q), decide_eq_false q, Bool.false_and, if_neg (show ¬ false = true by decide)]
    show b_X9_isShown_23 (4999 + 1) a (nI s) (nI c) 0 0 M = _
    unfold b_X9_isShown_23
    rw [if_pos (show (0 : Int32) = 0 from rfl), if_pos me_bit0]
def ms_end (x : Int32) (M : zz_M) : Option (Int32 × zz_M) := if 0 ≤ x then some (x, M) else some (-1000000004, ms_fM 3 M)
theorem e_X9_read110 {s n : Nat} {kd : Int32} {V : Nat → Int32} {N : Nat → Int64} {R R0 : Nat → Int32} (hs : s < 4) (hn : n ≤ 6) (hok : ms_okV V) : ∀ (d k i : Nat) (M : zz_M) (x : Int32), d < k → i + d = 4 ^ n → x = -1 ∨ 0 ≤ x → mr_kept 0 R M → zz_i M 130 = R → ms_KM M 130 (20 + 42 * 0) kd [] → ms_RW M 130 V → zz_i M 136 s = nI n → (∀ j, j < 40 → zz_j M 137 (40 * s + j) = N j) → (∀ j, j < 440 → zz_i M 132 j = R0 j) →
    ∃ M' : zz_M, b_X9_read_110 k 129 (nI s) x (nI i) M = ms_end (ms_fold (ms_gP (fun i => ms_shown N n (ms_row kd n i ([], V)).1)) d i x) M' ∧ (∀ j, j < 440 → zz_i M' 130 j = R0 j) ∧ me_same (fun q => q = 130) M M'
  | d, k + 1, i, M, x, hd, hi, hx, hk, hRR, hK, hR, h1, hN, hA => by
    have h4 := mr_4 hn
    have fin : ∃ M' : zz_M, b_X9_read_171 129 x M = ms_end x M' ∧ (∀ j, j < 440 → zz_i M' 130 j = R0 j) ∧ me_same (fun q => q = 130) M M' := by
      obtain ⟨M', hM', hA', hS'⟩ := e_X9_back (M := M) 129 (a2 := 132) (by decide)
      refine ⟨M', ?_, fun j hj => by rw [hA' j hj, hA j hj], hS'⟩
      unfold b_X9_read_171 ms_end
      rw [hM', zz_bd_some, e_fs3, zz_bd_some]
    unfold b_X9_read_110
    rw [if_pos (me_in hs (by decide)), me_n (show s < 2 ^ 31 by omega), h1, mr_lim hn]
    rcases d with _ | d
    · rw [if_pos (nI_le (by omega) (by omega))]
      exact fin
    rw [if_neg (nI_ge (by omega) (by omega))]
    rcases hx with hx | hx
    · obtain ⟨M1, hM1, hK1, hS1, M2, hM2, hR2, hk2, hS2⟩ := e_X9_try (c := 0) (code := i) (X := ([], V)) (by omega) (by omega) hn hk hRR hK hR ⟨ms_Lok.nil, hok⟩ 129
      have hM1 : f_X9_dipRow 129 0 (nI i) (nI n) M = some ((), M1) := hM1
      have hM2 : f_X9_putsBack 129 0 M1 = some ((), M2) := hM2
      have hsh := e_X9_shown (s := s) (c := 0) (n := n) (N := N) (M := M1) hs (by omega) (by omega) hK1 (by rw [hS1.at (by decide)]; exact h1) (fun j hj => by rw [hS1.2]; exact hN j hj) 129
      have hsh : f_X9_isShown 129 (nI s) 0 M1 = _ := hsh
      rw [if_neg (show ¬ 0 ≤ x by rw [hx]; decide), if_pos (me_in hs (by decide)), hM1, zz_bd_some, hsh, zz_bd_some]
      have er : zz_i M2 130 = zz_i M 130 := by rw [hR2, hRR]
      have go : ∀ y : Int32, y = ms_gP (fun i => ms_shown N n (ms_row kd n i ([], V)).1) i x → (y = -1 ∨ 0 ≤ y) → ∃ M' : zz_M, b_X9_read_158 (b_X9_read_110 k) 129 (nI s) (nI i) y M1 = ms_end (ms_fold (ms_gP (fun i => ms_shown N n (ms_row kd n i ([], V)).1)) (d + 1) i x) M' ∧ (∀ j, j < 440 → zz_i M' 130 j = R0 j) ∧ me_same (fun q => q = 130) M M' := by
        intro y hy hy2
        unfold b_X9_read_158
        rw [hM2, zz_bd_some, me_wr, nI_1, ms_fold, ← hy]
        obtain ⟨M3, hM3, hA3, hS3⟩ := e_X9_read110 (kd := kd) (N := N) (R := R) (R0 := R0) hs hn hok d k (i + 1) M2 y (by omega) (by omega) hy2 hk2 hR2 (hK.row er) (hR.row er) (by rw [hS2.at (by decide)]; exact h1) (fun j hj => by rw [hS2.2]; exact hN j hj) (fun j hj => by rw [hS2.at (by decide)]; exact hA j hj)
        exact ⟨M3, hM3, hA3, hS2.tr hS3⟩
      by_cases q : ms_shown N n (ms_row kd n i ([], V)).1 = true
      · rw [if_pos q, if_neg (show ¬ (1 : Int32) = 0 by decide)]
        exact go _ (by rw [ms_gP, if_neg (by rw [hx]; decide), if_pos q]) (Or.inr (nI_pos' (by omega)))
      · rw [if_neg q, if_pos (show (0 : Int32) = 0 from rfl)]
        exact go _ (by rw [ms_gP, if_neg (by rw [hx]; decide), if_neg q, hx]) (Or.inl rfl)
    · rw [if_pos hx, ms_gP_stop _ _ hx]
      exact fin
