/-! The reference's tokens. -/
def en (f : Nat → Nat) : Nat → Nat
  | 0 => 0
  | k + 1 => 27 * en f k + f k
def t_let (T : ms_T) (s j : Nat) : Nat := zz_n (T.2 (s + j)) - 96
def t_wv (T : ms_T) (s k : Nat) : Int64 := if k ≤ 12 then lN (en (t_let T s) k) else -1
/-- what a token of the reference may change -/
def tr_same (M M' : zz_M) : Prop := (∀ q, q ≠ 129 → zz_i M' q = zz_i M q) ∧ (∀ k, k ≠ 7 → k ≠ 8 → k ≠ 9 → k ≠ 11 → zz_i M' 129 k = zz_i M 129 k) ∧ ∀ q, q ≠ 129 → zz_j M' q = zz_j M q
theorem tr_same.rf {M : zz_M} : tr_same M M := ⟨fun _ _ => rfl, fun _ _ _ _ _ => rfl, fun _ _ => rfl⟩
theorem tr_same.tr {M M1 M2 : zz_M} (h1 : tr_same M M1) (h2 : tr_same M1 M2) : tr_same M M2 := ⟨fun q a => (h2.1 q a).trans (h1.1 q a), fun k a b c d => (h2.2.1 k a b c d).trans (h1.2.1 k a b c d), fun q a => (h2.2.2 q a).trans (h1.2.2 q a)⟩
theorem tr_same.si {M : zz_M} {k : Nat} {v : Int32} (h : k = 7 ∨ k = 8 ∨ k = 9 ∨ k = 11) : tr_same M (zz_si M 129 k v) := ⟨fun q a => zz_i_si_ne a, fun j a b c d => me_ine (by omega), fun _ _ => rfl⟩
theorem tr_same.sj {M : zz_M} {v : Int64} : tr_same M (zz_sj M 129 10 v) := ⟨fun _ _ => rfl, fun _ _ _ _ _ => rfl, fun q a => zz_j_sj_ne a⟩
/-- the reference's token -/
def t_D (M : zz_M) (T : ms_T) (p : Nat) : Prop := zz_i M 129 7 = nI (if t_0 T p = 4 then 3 else t_0 T p) ∧ zz_i M 129 8 = nI (t_1 T p) ∧ zz_i M 129 9 = nI (t_2 T p) ∧ (t_0 T p = 2 → zz_i M 129 11 = t_3 T p) ∧ (t_0 T p = 3 → zz_i M 129 11 = 59) ∧ (t_0 T p = 4 → zz_i M 129 11 ≠ 59) ∧ (t_0 T p = 1 → zz_j M 129 10 = t_wv T (t_1 T p) (t_2 T p - t_1 T p))
theorem ms_TM.fr {M M' : zz_M} {T : ms_T} (h : ms_TM M T) (e : zz_i M' 129 6 = zz_i M 129 6) (e2 : zz_i M' 134 = zz_i M 134) : ms_TM M' T := ⟨by rw [e]; exact h.1, fun j hj => by rw [e2]; exact h.2 j hj⟩
theorem ms_TM.tr {M M' : zz_M} {T : ms_T} (h : ms_TM M T) (e : tr_same M M') : ms_TM M' T := h.fr (e.2.1 6 (by decide) (by decide) (by decide) (by decide)) (e.1 134 (by decide))
theorem e_X9_isLetter (x : Int32) (M : zz_M) : f_X9_isLetter x M = some (ms_in x 97 122, M) := by
  rw [f_X9_isLetter, e_X9_in, zz_bd_some, if_pos (ms_in_bit _ _ _)]
theorem e_X9_isDigit (x : Int32) (M : zz_M) : f_X9_isDigit x M = some (ms_in x 48 57, M) := by
  rw [f_X9_isDigit, e_X9_in, zz_bd_some, if_pos (ms_in_bit _ _ _)]
theorem e_X9_byteAt {M : zz_M} {T : ms_T} {p : Nat} (hT : ms_TM M T) (hn : T.1 ≤ 120) (hp : p < T.1) : f_X9_byteAt 129 (nI p) M = some (T.2 p, M) := by
  unfold f_X9_byteAt
  rw [hT.1, if_neg (nI_ge hp (by omega)), if_pos (me_in (show p < 120 by omega) (by decide)), me_n (by omega), hT.2 p hp]
theorem e_X9_byteEnd {M : zz_M} {T : ms_T} {p : Nat} (hT : ms_TM M T) (hn : T.1 ≤ 120) (hp : p = T.1) : f_X9_byteAt 129 (nI p) M = some (-1, M) := by
  unfold f_X9_byteAt
  rw [hT.1, hp, if_pos (nI_le (Nat.le_refl _) (by omega))]
theorem e_X9_num207 {T : ms_T} (hn : T.1 ≤ 120) : ∀ (d k p : Nat) (x : Int32) (M : zz_M), d < k → p + d = T.1 → zz_i M 129 7 = 2 → zz_i M 129 9 = nI p → zz_i M 129 11 = x → 0 ≤ x ∧ x ≤ 100000 → ms_TM M T →
    ∃ M' : zz_M, b_X9_advance_207 k 129 M = some ((), M') ∧ zz_i M' 129 9 = nI (t_dg T d p x).1 ∧ zz_i M' 129 11 = (t_dg T d p x).2 ∧ zz_i M' 129 7 = 2 ∧ zz_i M' 129 8 = zz_i M 129 8 ∧ tr_same M M'
  | 0, k + 1, p, x, M, _, hp, h7, h9, h11, hx, hT => by
    unfold b_X9_advance_207
    rw [if_pos h7, h9, e_X9_byteEnd hT hn (by omega), zz_bd_some, e_X9_isDigit, zz_bd_some, if_pos (show ms_in (-1) 48 57 = 0 by decide)]
    exact ⟨M, rfl, h9, h11, h7, rfl, tr_same.rf⟩
  | d + 1, k + 1, p, x, M, hd, hp, h7, h9, h11, hx, hT => by
    unfold b_X9_advance_207 t_dg
    rw [if_pos h7, h9, e_X9_byteAt hT hn (by omega), zz_bd_some, e_X9_isDigit, zz_bd_some]
    by_cases q : ms_in (T.2 p) 48 57 = 0
    · rw [if_pos q, if_pos q]
      exact ⟨M, rfl, h9, h11, h7, rfl, tr_same.rf⟩
    · obtain ⟨hv, hv2⟩ := t_val_ok (b := T.2 p) hx q
      have go : ∀ y : Int32, y = t_val x (T.2 p) → ∃ M' : zz_M, b_X9_advance_264 (b_X9_advance_207 k) 129 y 129 M = some ((), M') ∧ zz_i M' 129 9 = nI (t_dg T d (p + 1) (t_val x (T.2 p))).1 ∧ zz_i M' 129 11 = (t_dg T d (p + 1) (t_val x (T.2 p))).2 ∧ zz_i M' 129 7 = 2 ∧ zz_i M' 129 8 = zz_i M 129 8 ∧ tr_same M M' := by
        intro y hy
        have hs : tr_same M (zz_si (zz_si M 129 11 y) 129 9 (nI (p + 1))) := (tr_same.si (by omega)).tr (tr_same.si (by omega))
        unfold b_X9_advance_264
        rw [me_wr, me_wr, me_ine (by omega), h9, nI_1]
        obtain ⟨M', a1, a2, a3, a4, a5, a6⟩ := e_X9_num207 hn d k (p + 1) (t_val x (T.2 p)) (zz_si (zz_si M 129 11 y) 129 9 (nI (p + 1))) (by omega) (by omega) (by rw [me_ine (by omega), me_ine (by omega), h7]) (me_hit rfl rfl) (by rw [me_ine (by omega), me_hit rfl rfl, hy]) hv (hT.tr hs)
        exact ⟨M', a1, a2, a3, a4, by rw [a5, me_ine (by omega), me_ine (by omega)], hs.tr a6⟩
      rw [if_neg q, if_neg q, h11]
      by_cases q9 : x ≤ 9999
      · rw [if_pos q9, h9, e_X9_byteAt hT hn (show p < T.1 by omega), zz_bd_some]
        exact go _ (by rw [hv2, if_pos q9])
      · rw [if_neg q9]
        exact go _ (by rw [hv2, if_neg q9])
theorem en_b {f : Nat → Nat} : ∀ {k : Nat}, (∀ j, j < k → f j ≤ 26) → en f k < 27 ^ k
  | 0, _ => Nat.one_pos
  | k + 1, h => by
    have h1 := en_b (f := f) (k := k) (fun j hj => h j (by omega))
    have h2 := h k (by omega)
    rw [en, Nat.pow_succ]
    omega
theorem t_letter {b : Int32} (h : ¬ ms_in b 97 122 = 0) : ∃ c, 97 ≤ c ∧ c ≤ 122 ∧ b = nI c := by
  rcases ms_in_nat (x := b) (l := 97) (h := 122) (a := 97) (b := 122) rfl rfl (by omega) (by omega) with q | ⟨_, c, h1, h2, e⟩
  · exact absurd q h
  · exact ⟨c, h1, h2, e⟩
theorem e_X9_word126 {T : ms_T} (hn : T.1 ≤ 120) {s : Nat} : ∀ (d k p : Nat) (M : zz_M), d < k → p + d = T.1 → s ≤ p → zz_i M 129 7 = 1 → zz_i M 129 8 = nI s → zz_i M 129 9 = nI p → zz_j M 129 10 = t_wv T s (p - s) → (∀ j, j < p - s → t_let T s j ≤ 26) → ms_TM M T →
    ∃ M' : zz_M, b_X9_advance_126 k 129 M = some ((), M') ∧ zz_i M' 129 9 = nI (t_le T d p) ∧ zz_j M' 129 10 = t_wv T s (t_le T d p - s) ∧ zz_i M' 129 7 = 1 ∧ zz_i M' 129 8 = nI s ∧ tr_same M M'
  | d, k + 1, p, M, hd, hp, hsp, h7, h8, h9, h10, hlet, hT => by
    have fin : ∃ M' : zz_M, b_X9_advance_207 zz_fuel 129 M = some ((), M') ∧ zz_i M' 129 9 = nI p ∧ zz_j M' 129 10 = t_wv T s (p - s) ∧ zz_i M' 129 7 = 1 ∧ zz_i M' 129 8 = nI s ∧ tr_same M M' := by
      refine ⟨M, ?_, h9, h10, h7, h8, tr_same.rf⟩
      show b_X9_advance_207 (4999 + 1) 129 M = _
      unfold b_X9_advance_207
      rw [if_neg (by rw [h7]; decide)]
    unfold b_X9_advance_126
    rw [if_pos h7, h9]
    rcases d with _ | d
    · rw [e_X9_byteEnd hT hn (by omega), zz_bd_some, e_X9_isLetter, zz_bd_some, if_pos (show ms_in (-1) 97 122 = 0 by decide)]
      exact fin
    · unfold t_le
      rw [e_X9_byteAt hT hn (by omega), zz_bd_some, e_X9_isLetter, zz_bd_some]
      by_cases q : ms_in (T.2 p) 97 122 = 0
      · rw [if_pos q, if_pos q]
        exact fin
      · obtain ⟨c, hc1, hc2, hc⟩ := t_letter q
        have hlp : t_let T s (p - s) = c - 96 := by
          unfold t_let
          rw [show s + (p - s) = p by omega, hc, me_n (by omega)]
        have hlet' : ∀ j, j < p + 1 - s → t_let T s j ≤ 26 := by
          intro j hj
          by_cases qj : j = p - s
          · rw [qj, hlp]; omega
          · exact hlet j (by omega)
        have go : ∀ y : Int64, y = t_wv T s (p + 1 - s) → ∃ M' : zz_M, b_X9_advance_191 (b_X9_advance_126 k) 129 y 129 M = some ((), M') ∧ zz_i M' 129 9 = nI (t_le T d (p + 1)) ∧ zz_j M' 129 10 = t_wv T s (t_le T d (p + 1) - s) ∧ zz_i M' 129 7 = 1 ∧ zz_i M' 129 8 = nI s ∧ tr_same M M' := by
          intro y hy
          have hs : tr_same M (zz_si (zz_sj M 129 10 y) 129 9 (nI (p + 1))) := (tr_same.sj).tr (tr_same.si (by omega))
          have e9 : zz_i (zz_sj M 129 10 y) 129 9 = nI p := h9
          unfold b_X9_advance_191
          rw [me_wr, me_wr, e9, nI_1]
          obtain ⟨M', a1, a2, a3, a4, a5, a6⟩ := e_X9_word126 hn d k (p + 1) (zz_si (zz_sj M 129 10 y) 129 9 (nI (p + 1))) (by omega) (by omega) (by omega) (by rw [me_ine (by omega)]; exact h7) (by rw [me_ine (by omega)]; exact h8) (me_hit rfl rfl) (by rw [me_ji, me_jhit rfl rfl, hy]) hlet' (hT.tr hs)
          exact ⟨M', a1, a2, a3, a4, a5, hs.tr a6⟩
        rw [if_neg q, if_neg q, h8, h9, pk_sub hsp]
        by_cases q12 : 12 ≤ p - s
        · rw [if_pos (show (12 : Int32) ≤ nI (p - s) from nI_le (a := 12) (b := p - s) q12 (by omega))]
          exact go _ (by rw [t_wv, if_neg (by omega)])
        · rw [if_neg (show ¬ (12 : Int32) ≤ nI (p - s) from me_ge (y := 12) (p - s) 12 rfl (by omega) (by decide)), e_X9_byteAt hT hn (by omega), zz_bd_some, h10]
          refine go _ ?_
          rw [t_wv, if_pos (by omega), t_wv, if_pos (by omega), show p + 1 - s = (p - s) + 1 by omega, en, hlp, hc, nI_l (by omega), show (27 : Int64) = lN 27 from rfl, show (96 : Int64) = lN 96 from rfl, lN_mul, lN_add, lN_sub (by omega)]
          congr 1
          omega
theorem e_X9_advance8 {T : ms_T} (hn : T.1 ≤ 120) (hok : ∀ j, 0 ≤ T.2 j ∧ T.2 j ≤ 255) {p0 : Nat} : ∀ (d k p : Nat) (M : zz_M), d < k → p + d = T.1 → t_sk T d p = t_1 T p0 → zz_i M 129 8 = nI p → ms_TM M T →
    ∃ M' : zz_M, b_X9_advance_8 k 129 M = some ((), M') ∧ t_D M' T p0 ∧ tr_same M M'
  | d, k + 1, p, M, hd, hp, hsk, h8, hT => by
    -- the loops behind the first byte
    have l105 : ∀ (srt : Int32) (st0 : Int32) (M1 : zz_M) (s : Nat), s ≤ T.1 → ms_TM M1 T → zz_i M1 129 7 = srt → zz_i M1 129 8 = nI s → zz_i M1 129 9 = nI s → zz_j M1 129 10 = 0 → (srt = 2 → st0 = 0) →
        ∃ M' : zz_M, b_X9_advance_105 129 st0 129 M1 = some ((), M') ∧ zz_i M' 129 7 = srt ∧ zz_i M' 129 8 = nI s ∧ (srt = 0 → zz_i M' 129 9 = nI s) ∧ (srt = 1 → zz_i M' 129 9 = nI (t_le T (T.1 - s) s) ∧ zz_j M' 129 10 = t_wv T s (t_le T (T.1 - s) s - s)) ∧ (srt = 2 → zz_i M' 129 9 = nI (t_dg T (T.1 - s) s 0).1 ∧ zz_i M' 129 11 = (t_dg T (T.1 - s) s 0).2) ∧ (srt = 3 → zz_i M' 129 9 = nI (s + 1) ∧ zz_i M' 129 11 = st0) ∧ tr_same M1 M' := by
      intro srt st0 M1 s hs hT1 g7 g8 g9 g10 hst
      have b7 : zz_i (zz_si M1 129 11 st0) 129 7 = srt := by rw [me_ine (by omega), g7]
      have b8 : zz_i (zz_si M1 129 11 st0) 129 8 = nI s := by rw [me_ine (by omega), g8]
      have b9 : zz_i (zz_si M1 129 11 st0) 129 9 = nI s := by rw [me_ine (by omega), g9]
      have bS : tr_same M1 (zz_si M1 129 11 st0) := tr_same.si (by omega)
      have stop207 : ∀ M2 : zz_M, ¬ zz_i M2 129 7 = 2 → b_X9_advance_207 zz_fuel 129 M2 = some ((), M2) := by
        intro M2 h
        show b_X9_advance_207 (4999 + 1) 129 M2 = _
        unfold b_X9_advance_207
        rw [if_neg h]
      have stop126 : ∀ M2 : zz_M, ¬ zz_i M2 129 7 = 1 → b_X9_advance_126 zz_fuel 129 M2 = b_X9_advance_207 zz_fuel 129 M2 := by
        intro M2 h
        show b_X9_advance_126 (4999 + 1) 129 M2 = _
        unfold b_X9_advance_126
        rw [if_neg h]
      unfold b_X9_advance_105
      rw [me_wr, b7]
      by_cases q3 : srt = 3
      · have c7 : zz_i (zz_si (zz_si M1 129 11 st0) 129 9 (nI (s + 1))) 129 7 = 3 := by rw [me_ine (by omega), b7, q3]
        rw [if_pos q3, me_wr, b9, nI_1, stop126 _ (by rw [c7]; decide), stop207 _ (by rw [c7]; decide)]
        refine ⟨_, rfl, by rw [c7, q3], by rw [me_ine (by omega), b8], fun z => ?_, fun z => ?_, fun z => ?_, fun _ => ⟨me_hit rfl rfl, by rw [me_ine (by omega), me_hit rfl rfl]⟩, bS.tr (tr_same.si (by omega))⟩
        · exact absurd (q3.symm.trans z) (by decide)
        · exact absurd (q3.symm.trans z) (by decide)
        · exact absurd (q3.symm.trans z) (by decide)
      · rw [if_neg q3]
        by_cases q1 : srt = 1
        · obtain ⟨M', a1, a2, a3, a4, a5, a6⟩ := e_X9_word126 hn (T.1 - s) zz_fuel s (zz_si M1 129 11 st0) (by show _ < 5000; omega) (by omega) (Nat.le_refl _) (by rw [b7, q1]) b8 b9 (by rw [me_ji, g10, Nat.sub_self]; rfl) (fun j hj => absurd hj (by omega)) (hT1.tr bS)
          refine ⟨M', a1, by rw [a4, q1], a5, fun z => ?_, fun _ => ⟨a2, a3⟩, fun z => ?_, fun z => absurd z q3, bS.tr a6⟩
          · exact absurd (q1.symm.trans z) (by decide)
          · exact absurd (q1.symm.trans z) (by decide)
        · rw [stop126 _ (by rw [b7]; exact q1)]
          by_cases q2 : srt = 2
          · obtain ⟨M', a1, a2, a3, a4, a5, a6⟩ := e_X9_num207 hn (T.1 - s) zz_fuel s 0 (zz_si M1 129 11 st0) (by show _ < 5000; omega) (by omega) (by rw [b7, q2]) b9 (by rw [me_hit rfl rfl, hst q2]) ⟨by decide, by decide⟩ (hT1.tr bS)
            refine ⟨M', a1, by rw [a4, q2], by rw [a5, b8], fun z => ?_, fun z => absurd z q1, fun _ => ⟨a2, a3⟩, fun z => absurd z q3, bS.tr a6⟩
            exact absurd (q2.symm.trans z) (by decide)
          · rw [stop207 _ (by rw [b7]; exact q2)]
            exact ⟨_, rfl, b7, b8, fun _ => b9, fun z => absurd z q1, fun z => absurd z q2, fun z => absurd z q3, bS⟩
    have l83 : ∀ (srt : Int32) (b : Int32) (M1 : zz_M) (s : Nat), s ≤ T.1 → ms_TM M1 T → zz_i M1 129 8 = nI s → zz_i M1 129 9 = nI s →
        ∃ M' : zz_M, b_X9_advance_83 129 b srt 129 M1 = some ((), M') ∧ zz_i M' 129 7 = srt ∧ zz_i M' 129 8 = nI s ∧ (srt = 0 → zz_i M' 129 9 = nI s) ∧ (srt = 1 → zz_i M' 129 9 = nI (t_le T (T.1 - s) s) ∧ zz_j M' 129 10 = t_wv T s (t_le T (T.1 - s) s - s)) ∧ (srt = 2 → zz_i M' 129 9 = nI (t_dg T (T.1 - s) s 0).1 ∧ zz_i M' 129 11 = (t_dg T (T.1 - s) s 0).2) ∧ (srt = 3 → zz_i M' 129 9 = nI (s + 1) ∧ zz_i M' 129 11 = b) ∧ tr_same M1 M' := by
      intro srt b M1 s hs hT1 g8 g9
      have bS : tr_same M1 (zz_sj (zz_si M1 129 7 srt) 129 10 0) := (tr_same.si (by omega)).tr tr_same.sj
      have b7 : zz_i (zz_sj (zz_si M1 129 7 srt) 129 10 0) 129 7 = srt := by rw [me_ij, me_hit rfl rfl]
      have b8 : zz_i (zz_sj (zz_si M1 129 7 srt) 129 10 0) 129 8 = nI s := by rw [me_ij, me_ine (by omega), g8]
      have b9 : zz_i (zz_sj (zz_si M1 129 7 srt) 129 10 0) 129 9 = nI s := by rw [me_ij, me_ine (by omega), g9]
      unfold b_X9_advance_83
      rw [me_wr, me_wr, b7]
      by_cases q2 : srt = 2
      · rw [if_pos q2]
        obtain ⟨M', a1, a2, a3, a4, a5, a6, a7, a8⟩ := l105 srt 0 _ s hs (hT1.tr bS) b7 b8 b9 (me_jhit rfl rfl) (fun _ => rfl)
        exact ⟨M', a1, a2, a3, a4, a5, a6, fun z => absurd (q2.symm.trans z) (by decide), bS.tr a8⟩
      · rw [if_neg q2]
        obtain ⟨M', a1, a2, a3, a4, a5, a6, a7, a8⟩ := l105 srt b _ s hs (hT1.tr bS) b7 b8 b9 (me_jhit rfl rfl) (fun z => absurd z q2)
        exact ⟨M', a1, a2, a3, a4, a5, a6, a7, bS.tr a8⟩
    have fin : ∀ s, s ≤ T.1 → s = t_1 T p0 → zz_i M 129 8 = nI s → ∃ M' : zz_M, zz_w (zz_si M 129 9 (zz_i M 129 8)) (fun M_5 => zz_bd (f_X9_byteAt 129 (zz_i M_5 129 8) M_5) (fun r_6 M_7 => (if 0 ≤ r_6 then zz_bd (f_X9_isLetter r_6 M_7) (fun r_9 M_10 => (if r_9 = 0 then zz_bd (f_X9_isDigit r_6 M_10) (fun r_12 M_13 => (if r_12 = 0 then b_X9_advance_83 129 r_6 (3 : Int32) 129 M_13 else b_X9_advance_83 129 r_6 (2 : Int32) 129 M_13)) else b_X9_advance_83 129 r_6 (1 : Int32) 129 M_10)) else b_X9_advance_83 129 r_6 (0 : Int32) 129 M_7))) = some ((), M') ∧ t_D M' T p0 ∧ tr_same M M' := by
      intro s hs1 hs2 hs3
      have bS : tr_same M (zz_si M 129 9 (nI s)) := tr_same.si (by omega)
      have hT1 := hT.tr bS
      have g8 : zz_i (zz_si M 129 9 (nI s)) 129 8 = nI s := by rw [me_ine (by omega), hs3]
      have g9 : zz_i (zz_si M 129 9 (nI s)) 129 9 = nI s := me_hit rfl rfl
      rw [hs3, me_wr, g8]
      by_cases q : s < T.1
      · rw [e_X9_byteAt hT1 hn q, zz_bd_some, if_pos (hok s).1, e_X9_isLetter, zz_bd_some]
        by_cases ql : ms_in (T.2 s) 97 122 = 0
        · rw [if_pos ql, e_X9_isDigit, zz_bd_some]
          by_cases qd : ms_in (T.2 s) 48 57 = 0
          · rw [if_pos qd]
            obtain ⟨M', a1, a2, a3, a4, a5, a6, a7, a8⟩ := l83 3 (T.2 s) _ s hs1 hT1 g8 g9
            refine ⟨M', a1, ?_, bS.tr a8⟩
            subst hs2
            obtain ⟨c1, c2⟩ := a7 rfl
            unfold t_D t_0 t_2
            rw [if_pos q, if_pos q, if_pos ql, if_pos ql, if_pos qd, if_pos qd]
            by_cases q59 : T.2 (t_1 T p0) = 59
            · rw [if_pos q59]
              exact ⟨a2, a3, c1, fun z => absurd z (by decide), fun _ => by rw [c2, q59], fun z => absurd z (by decide), fun z => absurd z (by decide)⟩
            · rw [if_neg q59]
              exact ⟨a2, a3, c1, fun z => absurd z (by decide), fun z => absurd z (by decide), fun _ => by rw [c2]; exact q59, fun z => absurd z (by decide)⟩
          · rw [if_neg qd]
            obtain ⟨M', a1, a2, a3, a4, a5, a6, a7, a8⟩ := l83 2 (T.2 s) _ s hs1 hT1 g8 g9
            refine ⟨M', a1, ?_, bS.tr a8⟩
            subst hs2
            obtain ⟨c1, c2⟩ := a6 rfl
            unfold t_D t_0 t_2 t_3
            rw [if_pos q, if_pos q, if_pos ql, if_pos ql, if_neg qd, if_neg qd]
            exact ⟨a2, a3, c1, fun _ => c2, fun z => absurd z (by decide), fun z => absurd z (by decide), fun z => absurd z (by decide)⟩
        · rw [if_neg ql]
          obtain ⟨M', a1, a2, a3, a4, a5, a6, a7, a8⟩ := l83 1 (T.2 s) _ s hs1 hT1 g8 g9
          refine ⟨M', a1, ?_, bS.tr a8⟩
          subst hs2
          obtain ⟨c1, c2⟩ := a5 rfl
          unfold t_D t_0 t_2
          rw [if_pos q, if_pos q, if_neg ql, if_neg ql]
          exact ⟨a2, a3, c1, fun z => absurd z (by decide), fun z => absurd z (by decide), fun z => absurd z (by decide), fun _ => c2⟩
      · rw [e_X9_byteEnd hT1 hn (by omega), zz_bd_some, if_neg (show ¬ (0 : Int32) ≤ -1 by decide)]
        obtain ⟨M', a1, a2, a3, a4, a5, a6, a7, a8⟩ := l83 0 (-1) _ s hs1 hT1 g8 g9
        refine ⟨M', a1, ?_, bS.tr a8⟩
        subst hs2
        have c1 := a4 rfl
        unfold t_D t_0 t_2
        rw [if_neg q, if_neg q]
        exact ⟨a2, a3, c1, fun z => absurd z (by decide), fun z => absurd z (by decide), fun z => absurd z (by decide), fun z => absurd z (by decide)⟩
    unfold b_X9_advance_8
    rw [h8]
    rcases d with _ | d
    · rw [e_X9_byteEnd hT hn (by omega), zz_bd_some, if_neg (show ¬ (-1 : Int32) = 32 by decide)]
      exact fin p (by omega) hsk h8
    · unfold t_sk at hsk
      rw [e_X9_byteAt hT hn (by omega), zz_bd_some]
      by_cases q : T.2 p = 32
      · rw [if_pos q, me_wr]
        rw [if_pos q] at hsk
        have hs : tr_same M (zz_si M 129 8 (nI (p + 1))) := tr_same.si (by omega)
        obtain ⟨M', a1, a2, a3⟩ := e_X9_advance8 hn hok d k (p + 1) (zz_si M 129 8 (nI (p + 1))) (by omega) (by omega) hsk (me_hit rfl rfl) (hT.tr hs)
        rw [h8, nI_1]
        exact ⟨M', a1, a2, hs.tr a3⟩
      · rw [if_neg q]
        rw [if_neg q] at hsk
        exact fin p (by omega) hsk h8
theorem e_X9_advance {T : ms_T} {M : zz_M} {p : Nat} (hn : ms_okT T) (hp : p ≤ T.1) (h9 : zz_i M 129 9 = nI p) (hT : ms_TM M T) :
    ∃ M' : zz_M, f_X9_advance 129 M = some ((), M') ∧ t_D M' T p ∧ tr_same M M' := by
  unfold f_X9_advance
  rw [me_wr, h9]
  have hs : tr_same M (zz_si M 129 8 (nI p)) := tr_same.si (by omega)
  obtain ⟨M', a1, a2, a3⟩ := e_X9_advance8 hn.1 hn.2 (p0 := p) (T.1 - p) zz_fuel p (zz_si M 129 8 (nI p)) (by have := hn.1; show _ < 5000; omega) (by omega) rfl (me_hit rfl rfl) (hT.tr hs)
  exact ⟨M', a1, a2, hs.tr a3⟩
