/-! Fires, sums, the tape, images. -/
theorem ms_bit1 {v s : Nat} (hv : v < 4) (hs : s < 2 ^ 31) : ((nI s) >>> ((nI v) &&& (31 : Int32))) &&& (1 : Int32) = nI (s / 2 ^ v % 2) := by
  have go : ∀ t : Int32, (t.toBitVec.smod 32).toNat = v → (nI s >>> t) &&& (1 : Int32) = nI (s / 2 ^ v % 2) := by
    intro t ht
    rw [pk_shrN hs t v ht, pk_andN (Nat.lt_of_le_of_lt (Nat.div_le_self _ _) (by omega)) 1 rfl]
  rcases (show v = 0 ∨ v = 1 ∨ v = 2 ∨ v = 3 by omega) with rfl | rfl | rfl | rfl <;> exact go _ (by decide)
def ms_lt (s : Nat) : Nat → Nat → (Nat → Int32) → Nat → Int32
  | 0, _, V => V
  | d + 1, v, V => ms_lt s d (v + 1) (ms_u V (4 + 4 * v + 3) (nI (s / 2 ^ v % 2)))
theorem ms_bit01 (n : Nat) : nI (n % 2) = 0 ∨ nI (n % 2) = 1 := by
  rcases Nat.mod_two_eq_zero_or_one n with h | h <;> rw [h]
  · exact Or.inl rfl
  · exact Or.inr rfl
theorem ms_may3 (n : Nat) : ms_may 3 (nI (n % 2)) := by
  rcases ms_bit01 n with h | h <;> rw [h] <;> exact ⟨by decide, by decide⟩
theorem ms_lt_ok (s : Nat) : ∀ {d v : Nat} {V : Nat → Int32}, v + d ≤ 4 → ms_okV V → ms_okV (ms_lt s d v V)
  | 0, _, _, _, h => h
  | d + 1, v, _, hv, h => ms_lt_ok s (d := d) (v := v + 1) (by omega) (h.set (by omega) (by omega) (ms_may3 _))
theorem e_X7_light2 {a s : Nat} (hs : s < 2 ^ 31) : ∀ (d n v : Nat) (M : zz_M) (V : Nat → Int32), d < n → v + d = 4 → ms_RV M a V →
    ∃ M' : zz_M, b_X7_light_2 n a (nI s) (nI v) M = some ((), M') ∧ ms_RV M' a (ms_lt s d v V) ∧ me_same (fun q => a ≤ q ∧ q < a + 6) M M'
  | 0, n + 1, v, M, V, _, hv, hR => by
    have : v = 4 := by omega
    subst this
    unfold b_X7_light_2
    rw [if_pos (by decide)]
    exact ⟨M, rfl, hR, me_same.rf⟩
  | d + 1, n + 1, v, M, V, hd, hv, hR => by
    unfold b_X7_light_2 b_X7_light_27
    rw [if_neg (me_ge (y := 4) v 4 rfl (by omega) (by decide)), if_pos (me_in (by omega) (by decide)), me_n (by omega), ms_bit1 (by omega) hs, show a + 1 + 1 + v = a + 2 + v by omega, nI_1]
    have e : (if nI (s / 2 ^ v % 2) = 1 then zz_w (zz_si M (a + 2 + v) 3 1) (fun M_4 => zz_w (nI (v + 1)) (fun x2_5 => b_X7_light_2 n a (nI s) x2_5 M_4)) else zz_w (zz_si M (a + 2 + v) 3 0) (fun M_4 => zz_w (nI (v + 1)) (fun x2_5 => b_X7_light_2 n a (nI s) x2_5 M_4))) = b_X7_light_2 n a (nI s) (nI (v + 1)) (zz_si M (a + 2 + v) 3 (nI (s / 2 ^ v % 2))) := by
      rcases ms_bit01 (s / 2 ^ v) with h | h
      · rw [h, if_neg (by decide), me_wr, me_wr]
      · rw [h, if_pos rfl, me_wr, me_wr]
    rw [if_pos me_bit1, if_pos me_bit0, e]
    obtain ⟨M2, hM2, hR2, hS2⟩ := e_X7_light2 hs d n (v + 1) (zz_si M (a + 2 + v) 3 (nI (s / 2 ^ v % 2))) _ (by omega) (by omega) (hR.u (nI (s / 2 ^ v % 2)) (by omega) (by omega))
    exact ⟨M2, hM2, hR2, (me_same.si (by omega)).tr hS2⟩
def ms_wm (w : Int32) : Nat → Nat → (Nat → Int32) → Bool
  | 0, _, _ => true
  | d + 1, v, V => decide (w ≤ V (4 + 4 * v + 1)) && ms_wm w d (v + 1) V
theorem e_X7_cold5 {a : Nat} {w : Int32} {V : Nat → Int32} {M : zz_M} (hR : ms_RV M a V) : ∀ (d n v : Nat) (x : Int32), d < n → v + d = 4 → ∃ r : Int32, b_X7_coldest_5 n a x (nI v) M = some (r, M) ∧ (w ≤ r ↔ w ≤ x ∧ ms_wm w d v V = true)
  | 0, n + 1, v, x, _, hv => by
    have : v = 4 := by omega
    subst this
    unfold b_X7_coldest_5 ms_wm
    rw [if_pos (by decide)]
    exact ⟨x, rfl, by simp⟩
  | d + 1, n + 1, v, x, hd, hv => by
    unfold b_X7_coldest_5 ms_wm
    rw [if_neg (me_ge (y := 4) v 4 rfl (by omega) (by decide)), if_pos (me_in (by omega) (by decide)), me_n (by omega), show a + 1 + 1 + v = a + 2 + v by omega, hR.2.2.2 v (by omega) 1 (by omega), me_wr, me_wr, nI_1]
    obtain ⟨r, h1, h2⟩ := e_X7_cold5 (w := w) hR d n (v + 1) (if V (4 + 4 * v + 1) < x then V (4 + 4 * v + 1) else x) (by omega) (by omega)
    refine ⟨r, h1, ?_⟩
    rw [h2, Bool.and_eq_true, decide_eq_true_eq]
    have e : (w ≤ (if V (4 + 4 * v + 1) < x then V (4 + 4 * v + 1) else x)) ↔ (w ≤ x ∧ w ≤ V (4 + 4 * v + 1)) := by
      split <;> grind
    rw [e, and_assoc]
theorem e_X9_warm4 {w : Int32} {V : Nat → Int32} {M : zz_M} (a : Nat) (hR : ms_RW M 130 V) : ∀ (d n v : Nat) (b : Bool), d < n → v + d = 4 → b_X9_areWarm_4 n a w (if b = true then 1 else 0) (nI v) M = some (if (b && ms_wm w d v V) = true then 1 else 0, M)
  | 0, n + 1, v, b, _, hv => by
    have : v = 4 := by omega
    subst this
    unfold b_X9_areWarm_4 ms_wm
    rw [if_pos (by decide)]
    cases b <;> rfl
  | d + 1, n + 1, v, b, hd, hv => by
    have ih := fun b => e_X9_warm4 (w := w) a hR d n (v + 1) b (by omega) (by omega)
    unfold b_X9_areWarm_4 ms_wm b_X9_areWarm_27 b_X9_areWarm_28
    rw [if_neg (me_ge (y := 4) v 4 rfl (by omega) (by decide))]
    cases b with
    | false =>
      rw [if_neg (show ¬ false = true by decide), if_pos rfl, me_wr, nI_1]
      exact ih false
    | true =>
      rw [if_pos (Eq.refl true), if_neg (show ¬ (1 : Int32) = 0 by decide), e_X9_its (show v < 4 by omega) (k := 1) (x := 1) (by omega) rfl, zz_bd_some, hR (4 + 4 * v + 1) (by omega) (by omega)]
      by_cases q : V (4 + 4 * v + 1) < w
      · rw [if_pos q, me_wr, nI_1, decide_eq_false (Int32.not_le.mpr q)]
        exact ih false
      · rw [if_neg q, me_wr, nI_1, decide_eq_true (Int32.not_lt.mp q)]
        exact ih true
def ms_fv (V : Nat → Int32) (n s : Nat) : Nat → Int32 := ms_pass n (ms_lt s 4 0 V)
def ms_gS (V : Nat → Int32) (w : Int32) (n s : Nat) (x : Int32 × Int32) : Int32 × Int32 := if ms_wm w 4 0 (ms_fv V n s) = true ∧ x.2 < ms_fv V n s 1 then (nI s, ms_fv V n s 1) else x
theorem e_X8_fires60 {w : Int32} {N : Nat} {V : Nat → Int32} (hw : w ≤ 99) (hN : N ≤ 100) (hok : ms_okV V) : ∀ (d n s : Nat) (M : zz_M) (x : Int32 × Int32), d < n → s + d = 16 → ms_RV M (1 + 1) V →
    ∃ M' : zz_M, b_X8_fires_60 n 0 w (nI N) x.1 x.2 (nI s) M = (if 0 ≤ (ms_fold (ms_gS V w N) d s x).1 then some ((ms_fold (ms_gS V w N) d s x).1, M') else some (-1000000004, ms_fC 3 M')) ∧ me_same (fun q => 57 ≤ q ∧ q < 57 + 6) M M'
  | 0, n + 1, s, M, x, _, hs, hR => by
    have : s = 16 := by omega
    subst this
    unfold b_X8_fires_60
    rw [if_pos (by decide), e_fi3, zz_bd_some]
    exact ⟨M, rfl, me_same.rf⟩
  | d + 1, n + 1, s, M, x, hd, hs, hR => by
    obtain ⟨M1, hM1, hR1, hS1⟩ := e_X7_become (M := M) (a := 57) (by omega) hR hok
    obtain ⟨M2, hM2, hR2, hS2⟩ := e_X7_light2 (s := s) (by omega) 4 zz_fuel 0 M1 V (by decide) (by omega) hR1
    have hM2 : f_X7_light 57 (nI s) M1 = some ((), M2) := hM2
    obtain ⟨M3, hM3, hR3, hS3⟩ := e_X7_pass (n := N) (by omega) hR2 (ms_lt_ok s (by omega) hok)
    obtain ⟨r, hr, hrw⟩ := e_X7_cold5 (w := w) hR3 4 zz_fuel 0 99 (by decide) (by omega)
    have hr : f_X7_coldest 57 M3 = some (r, M3) := hr
    have hSS := (hS1.tr hS2).tr hS3
    have hR' : ms_RV M3 (1 + 1) V := hR.fr (fun q _ _ => hSS.at (by omega))
    unfold b_X8_fires_60 b_X8_fires_133
    rw [if_neg (me_ge (y := 16) s 16 rfl (by omega) (by decide)), hM1, zz_bd_some, hM2, zz_bd_some, hM3, zz_bd_some, hr, zz_bd_some, hR3.1, ms_fold, ms_gS]
    have hrw : w ≤ r ↔ ms_wm w 4 0 (ms_fv V N s) = true := by
      rw [hrw]
      exact ⟨fun h => h.2, fun h => ⟨hw, h⟩⟩
    have go : ∀ y : Int32 × Int32, ∃ M' : zz_M, zz_w (nI s + 1) (fun x5_26 => b_X8_fires_60 n 0 w (nI N) y.1 y.2 x5_26 M3) = (if 0 ≤ (ms_fold (ms_gS V w N) d (s + 1) y).1 then some ((ms_fold (ms_gS V w N) d (s + 1) y).1, M') else some (-1000000004, ms_fC 3 M')) ∧ me_same (fun q => 57 ≤ q ∧ q < 57 + 6) M M' := by
      intro y
      rw [me_wr, nI_1]
      obtain ⟨M4, hM4, hS4⟩ := e_X8_fires60 hw hN hok d n (s + 1) M3 y (by omega) (by omega) hR'
      exact ⟨M4, hM4, hSS.tr hS4⟩
    change ∃ M', (if r < w then _ else (if ms_fv V N s 1 ≤ x.2 then _ else _)) = _ ∧ _
    by_cases q : r < w
    · rw [if_pos q, if_neg (fun z => absurd (hrw.mpr z.1) (Int32.not_le.mpr q))]
      exact go x
    · rw [if_neg q]
      have q1 := hrw.mp (Int32.not_lt.mp q)
      by_cases p : ms_fv V N s 1 ≤ x.2
      · rw [if_pos p, if_neg (fun z => absurd z.2 (Int32.not_lt.mpr p))]
        exact go x
      · rw [if_neg p, if_pos ⟨q1, Int32.not_le.mp p⟩]
        exact go (nI s, ms_fv V N s 1)
theorem ms_lt_app (s : Nat) : ∀ (d v : Nat) (V : Nat → Int32), True := fun _ _ _ => trivial
theorem e_X9_fires65 {w : Int32} {N : Nat} {V : Nat → Int32} {R : Nat → Int32} (hN : N ≤ 100) (hok : ms_okV V) (hRV : ∀ j, 1 ≤ j → j < 20 → R j = V j) : ∀ (d n s : Nat) (M : zz_M) (x : Int32 × Int32), d < n → s + d = 16 → (∀ j, j < 440 → zz_i M 132 j = R j) → (∀ j, j < 440 → zz_i M 130 j = R j) →
    ∃ M' : zz_M, b_X9_fires_65 n 129 w (nI N) x.1 x.2 (nI s) M = (if 0 ≤ (ms_fold (ms_gS V w N) d s x).1 then some ((ms_fold (ms_gS V w N) d s x).1, M') else some (-1000000004, ms_fM 3 M')) ∧ (∀ j, j < 440 → zz_i M' 130 j = R j) ∧ me_same (fun q => q = 130) M M'
  | 0, n + 1, s, M, x, _, hs, hA, hB => by
    have : s = 16 := by omega
    subst this
    unfold b_X9_fires_65
    rw [if_pos (by decide), e_fs3, zz_bd_some]
    exact ⟨M, rfl, hB, me_same.rf⟩
  | d + 1, n + 1, s, M, x, hd, hs, hA, hB => by
    have inner : ∀ (e k v : Nat) (M2 : zz_M) (W : Nat → Int32), e < k → v + e = 4 → ms_RW M2 130 W → ms_okV W → ms_lt s e v W = ms_lt s 4 0 V → mr_same (fun j => 1 ≤ j ∧ j < 20) M M2 →
        ∃ M' : zz_M, b_X9_fires_75 (b_X9_fires_65 n) k 129 w (nI N) x.1 x.2 (nI s) (nI v) M2 = (if 0 ≤ (ms_fold (ms_gS V w N) (d + 1) s x).1 then some ((ms_fold (ms_gS V w N) (d + 1) s x).1, M') else some (-1000000004, ms_fM 3 M')) ∧ (∀ j, j < 440 → zz_i M' 130 j = R j) ∧ me_same (fun q => q = 130) M M' := by
      intro e
      induction e with
      | zero =>
        intro k v M2 W hk hv hR2 hokW hW hS2
        obtain ⟨k, rfl⟩ : ∃ j, k = j + 1 := ⟨k - 1, by omega⟩
        have : v = 4 := by omega
        subst this
        have hW : W = ms_lt s 4 0 V := hW
        subst hW
        obtain ⟨M3, hM3, hR3, hS3⟩ := e_X9_go (n := N) 129 (by omega) hR2 hokW
        have hwm := e_X9_warm4 (w := w) 129 hR3 4 zz_fuel 0 true (by decide) (by omega)
        have hwm : f_X9_areWarm 129 w M3 = some (if ms_wm w 4 0 (ms_fv V N s) = true then 1 else 0, M3) := hwm
        have hSS := hS2.tr hS3
        have i1 : zz_in (1 : Int32) 440 = true := rfl
        have z1 : zz_n (1 : Int32) = 1 := rfl
        have hR31 : zz_i M3 130 1 = ms_fv V N s 1 := hR3 1 (by omega) (by omega)
        unfold b_X9_fires_75 b_X9_fires_129 b_X9_fires_130 b_X9_fires_143 b_X9_fires_160
        rw [if_pos (by decide), hM3, zz_bd_some, hwm, zz_bd_some, ms_fold, ms_gS]
        have go : ∀ y : Int32 × Int32, ∃ M' : zz_M, zz_bd (f_X9_moveAll 129 0 132 M3) (fun _ M_29 => zz_w (nI s + 1) (fun x5_30 => b_X9_fires_65 n 129 w (nI N) y.1 y.2 x5_30 M_29)) = (if 0 ≤ (ms_fold (ms_gS V w N) d (s + 1) y).1 then some ((ms_fold (ms_gS V w N) d (s + 1) y).1, M') else some (-1000000004, ms_fM 3 M')) ∧ (∀ j, j < 440 → zz_i M' 130 j = R j) ∧ me_same (fun q => q = 130) M M' := by
          intro y
          obtain ⟨M4, hM4, hA4, hS4⟩ := e_X9_undone 129 hA hSS
          rw [hM4, zz_bd_some, me_wr, nI_1]
          obtain ⟨M5, hM5, hB5, hS5⟩ := e_X9_fires65 (w := w) hN hok hRV d n (s + 1) M4 y (by omega) (by omega) (fun j hj => by rw [hS4.at (by decide), hSS.ot (by decide), hA j hj]) hA4
          exact ⟨M5, hM5, hB5, (hSS.1.tr hS4).tr hS5⟩
        by_cases q : ms_wm w 4 0 (ms_fv V N s) = true
        · rw [if_pos q, if_neg (show ¬ (1 : Int32) = 0 by decide), if_pos i1, z1, hR31]
          by_cases p : ms_fv V N s 1 ≤ x.2
          · rw [if_pos p, if_pos (Eq.refl (0 : Int32)), if_pos (Eq.refl (0 : Int32)), if_neg (show ¬ (ms_wm w 4 0 (ms_fv V N s) = true ∧ x.2 < ms_fv V N s 1) from fun z => absurd z.2 (Int32.not_lt.mpr p))]
            exact go x
          · rw [if_neg p, if_neg (show ¬ (1 : Int32) = 0 by decide), if_neg (show ¬ (1 : Int32) = 0 by decide), if_pos i1, if_pos (show ms_wm w 4 0 (ms_fv V N s) = true ∧ x.2 < ms_fv V N s 1 from ⟨q, Int32.not_le.mp p⟩)]
            exact go (nI s, ms_fv V N s 1)
        · rw [if_neg q, if_pos (Eq.refl (0 : Int32)), if_pos (Eq.refl (0 : Int32)), if_pos (Eq.refl (0 : Int32)), if_neg (show ¬ (ms_wm w 4 0 (ms_fv V N s) = true ∧ x.2 < ms_fv V N s 1) from fun z => q z.1)]
          exact go x
      | succ e ih =>
        intro k v M2 W hk hv hR2 hokW hW hS2
        obtain ⟨k, rfl⟩ : ∃ j, k = j + 1 := ⟨k - 1, by omega⟩
        unfold b_X9_fires_75
        rw [if_neg (me_ge (y := 4) v 4 rfl (by omega) (by decide)), ms_bit1 (by omega) (by omega), e_X9_setVat (show v < 4 by omega) (k := 3) (x := 3) (by omega) rfl, zz_bd_some, me_wr, nI_1]
        exact ih k (v + 1) _ _ (by omega) (by omega) (hR2.u _) (hokW.set (by omega) (by omega) (ms_may3 _)) hW (hS2.tr (mr_same.si (by omega)))
    unfold b_X9_fires_65
    rw [if_neg (me_ge (y := 16) s 16 rfl (by omega) (by decide))]
    exact inner 4 zz_fuel 0 M V (by decide) (by omega) (fun j h1 h2 => by rw [hB j (by omega), hRV j h1 h2]) hok rfl mr_same.rf
theorem ms_or0 (x : Int32) : x ||| 0 = x := by simp
def ms_gE (S : ms_S) (w : Int32) (c : Nat) (x : Int32) : Int32 := if ms_mn (S.2.2 c).1 (S.2.2 c).2 < w then x else x ||| ((1 : Int32) <<< (nI c &&& (31 : Int32)))
theorem e_X8_enough22 {M : zz_M} {S : ms_S} {w : Int32} (h : ms_SC M 1 S) (hn : S.2.1 ≤ 10) : ∀ (d n c : Nat) (x : Int32), d < n → c + d = S.2.1 → b_X8_enough_22 n 0 w x (nI c) M = some (ms_fold (ms_gE S w) d c x, M)
  | 0, n + 1, c, x, _, hc => by
    have : c = S.2.1 := by omega
    unfold b_X8_enough_22
    rw [h.2.1, this, if_pos (nI_le (Nat.le_refl _) (by omega))]
    rfl
  | d + 1, n + 1, c, x, hd, hc => by
    unfold b_X8_enough_22 b_X8_enough_55
    rw [h.2.1, if_neg (nI_ge (by omega) (by omega)), if_pos (me_in (show c < 10 by omega) (by decide)), me_n (by omega), e_X0_minutes (h.2.2 c (by omega)), zz_bd_some, ms_fold, ms_gE]
    split
    · rw [me_wr, nI_1]
      exact e_X8_enough22 h hn d n (c + 1) _ (by omega) (by omega)
    · rw [me_wr, me_wr, nI_1]
      exact e_X8_enough22 h hn d n (c + 1) _ (by omega) (by omega)
theorem e_X9_enough18 {M : zz_M} {S : ms_S} {w : Int32} (h : ms_SM M 130 S) (hn : S.2.1 ≤ 10) (a : Nat) : ∀ (d n c : Nat) (x : Int32), d < n → c + d = S.2.1 → b_X9_enough_18 n a w x (nI c) M = some (ms_fold (ms_gE S w) d c x, M)
  | 0, n + 1, c, x, _, hc => by
    have : c = S.2.1 := by omega
    unfold b_X9_enough_18
    rw [if_pos (show zz_in (0 : Int32) 440 = true from rfl), show zz_n (0 : Int32) = 0 from rfl, h.1, this, if_pos (nI_le (Nat.le_refl _) (by omega))]
    rfl
  | d + 1, n + 1, c, x, hd, hc => by
    unfold b_X9_enough_18 b_X9_enough_45
    rw [if_pos (show zz_in (0 : Int32) 440 = true from rfl), show zz_n (0 : Int32) = 0 from rfl, h.1, if_neg (nI_ge (by omega) (by omega)), e_X9_burnsOf (show c < 10 by omega) (h.2.2 c (by omega)), zz_bd_some, ms_fold, ms_gE]
    split
    · rw [me_wr, me_wr, nI_1, ms_or0]
      exact e_X9_enough18 h hn a d n (c + 1) _ (by omega) (by omega)
    · rw [me_wr, me_wr, nI_1]
      exact e_X9_enough18 h hn a d n (c + 1) _ (by omega) (by omega)
theorem op_enough {M : zz_M} (hI : mi_Inv M) (x1 : Int32) : zw_eq mi_Inv (f_X8_enough 0 x1) (f_X9_enough 129 x1) M := by
  obtain ⟨Z, hO, hC, hD⟩ := hI
  rcases ms_in_cases x1 0 9999 with ⟨h, -⟩ | ⟨h, -, -⟩
  · refine mi_find0 (r := -1000000001) 0 (by decide) hO hC hD ?_ (fun M1 hs _ => ?_)
    · simp only [f_X8_enough, e_X8_within, h, zz_bd_some, me_wr, me_t0, me_t1, if_true, if_false, e_fi0]
    · simp only [f_X9_enough, e_X9_isMinutes, h, zz_bd_some, me_wr, me_t0, me_t1, if_true, if_false, e_fs0]
  refine mi_ask (r := ms_fold (ms_gE Z.1 x1) Z.1.2.1 0 0) hO hC hD ?_ ?_
  · simp only [f_X8_enough, e_X8_within, h, zz_bd_some, me_wr, me_t0, me_t1, if_true, if_false]
    exact e_X8_enough22 hC.1 hO.1.2.2.1 Z.1.2.1 zz_fuel 0 0 (by have := hO.1.2.2.1; show _ < 5000; omega) (by omega)
  · simp only [f_X9_enough, e_X9_isMinutes, h, zz_bd_some, me_wr, me_t0, me_t1, if_true, if_false]
    exact e_X9_enough18 hD.1 hO.1.2.2.1 129 Z.1.2.1 zz_fuel 0 0 (by have := hO.1.2.2.1; show _ < 5000; omega) (by omega)
