/-! The class's text. -/
theorem e_X5_let {T : ms_T} {M : zz_M} {p k N : Nat} {S : ms_S} (hk : k = 1 ∨ k = 2) (hN2 : N < 2 ^ 31) (hn : T.1 ≤ 120) (hp : p ≤ T.1) (hT : ms_TC M T) (hC : t_C M T p) (hS : ms_SC M (90 + 1) S) (hi : it_num T p (nI N) = true) :
    ∃ M' : zz_M, zz_w (zz_si M (90 + 1 + 1) k (zz_i M 90 5)) (fun M_19 => zz_bd (f_X5_next 90 M_19) (fun _ M_20 => some ((1 : Int32), M_20))) = some (1, M') ∧ it_C T M M' 1 (.inr (t_2 T p, (ms_u S.1 k (t_3 T p), S.2))) := by
  obtain ⟨q0, w, hw, ew⟩ := it_num_v rfl hN2 hi
  have c1 : t_C (zz_si M (90 + 1 + 1) k (zz_i M 90 5)) T p := hC.v (by omega)
  have sS : me_same (fun q => 90 ≤ q ∧ q < 119) M (zz_si M (90 + 1 + 1) k (zz_i M 90 5)) := me_same.si (by omega)
  have s7 : me_same (fun q => 90 + 1 + 1 ≤ q ∧ q < 90 + 1 + 7) M (zz_si M (90 + 1 + 1) k (zz_i M 90 5)) := me_same.si (by omega)
  obtain ⟨M1, a1, a2, a3⟩ := e_X5_next hn (t_2_b hp).2.1 c1.2.2.1 (hT.x sS)
  rw [me_wr, a1, zz_bd_some]
  refine ⟨M1, rfl, sS.tr (me_90 a3), rfl, a2, ?_⟩
  have := (hS.vats (hS.1.u0 (zz_i M 90 5) (by omega)) s7).n a3
  rw [hC.2.2.2 q0] at this
  exact this
theorem it_C.bit {T : ms_T} {M M' : zz_M} {r : Int32} {o : Sum Nat (Nat × ms_S)} (h : it_C T M M' r o) : zz_bit r = true := by
  obtain ⟨_, h⟩ := h
  cases o with
  | inl f => rw [h.1]; rfl
  | inr x => rw [h.1]; rfl
theorem e_X5_item {T : ms_T} {M : zz_M} {p : Nat} {S : ms_S} (hn : T.1 ≤ 120) (hp : p ≤ T.1) (hT : ms_TC M T) (hC : t_C M T p) (hS : ms_SC M (90 + 1) S) (hok : ms_okS S) :
    ∃ (r : Int32) (M' : zz_M), f_X5_item 90 M = some (r, M') ∧ it_C T M M' r (it_item T p S) := by
  have h2 := t_2_b hp
  have n1 : ¬ (1 : Int32) = 0 := by decide
  have n0 : (0 : Int32) = 0 := rfl
  unfold f_X5_item it_item
  rw [e_X5_kindNamed hn hp hT hC, zz_bd_some]
  by_cases qk : 0 ≤ it_kn T p
  · rw [if_neg (Int32.not_lt.mpr qk), if_pos qk]
    unfold f_X5_newCandle
    by_cases q10 : S.2.1 < 10
    · rw [if_pos q10]
      obtain ⟨M1, a1, a2, a3⟩ := e_X1_add (it_kn T p) hS q10
      have sS : me_same (fun q => 90 ≤ q ∧ q < 119) M M1 := a3.wk (fun q hq => by omega)
      have c1 : t_C M1 T p := hC.fr (a3.at (by omega))
      obtain ⟨M2, b1, b2, b3⟩ := e_X5_next hn h2.2.1 c1.2.2.1 (hT.x sS)
      rw [a1, zz_bd_some, if_neg n1, b1, zz_bd_some, zz_bd_some]
      exact ⟨1, M2, rfl, sS.tr (me_90 b3), rfl, b2, a2.n b3⟩
    · rw [if_neg q10, e_X1_full _ hS (by have := hok.2.2.1; omega), zz_bd_some, if_pos n0, zz_bd_some]
      exact ⟨0, M, rfl, me_same.rf, rfl, hC.2.1⟩
  rw [if_pos (Int32.not_le.mp qk), if_neg qk]
  obtain ⟨M1, a1, a2, a3⟩ := e_X5_skips 6 (by omega) hn hp hT hC
  have hT1 := hT.x (me_90 a3)
  rw [a1, zz_bd_some]
  by_cases q6 : t_iw T p 6 = true
  · rw [if_pos q6] at a2
    rw [if_pos q6, if_pos q6, if_neg n1]
    obtain ⟨r, M2, b1, b2⟩ := e_X5_vatItem hn h2.2.1 hT1 a2 (hS.n a3)
    rw [b1, zz_bd_some]
    exact ⟨r, M2, if_pos b2.bit, it_C.tr (me_90 a3) b2⟩
  rw [if_neg q6] at a2
  rw [if_neg q6, if_neg q6, if_pos n0]
  obtain ⟨M2, b1, b2, b3⟩ := e_X5_skips 7 (by omega) hn hp hT1 a2
  have hT2 := hT1.x (me_90 b3)
  rw [b1, zz_bd_some]
  by_cases q7 : t_iw T p 7 = true
  · rw [if_pos q7] at b2
    rw [if_pos q7, if_pos q7, if_neg n1]
    obtain ⟨r, M3, c1, c2⟩ := e_X5_dipItem hn h2.2.1 hT2 b2 ((hS.n a3).n b3) hok
    rw [c1, zz_bd_some]
    exact ⟨r, M3, if_pos c2.bit, it_C.tr ((me_90 a3).tr (me_90 b3)) c2⟩
  rw [if_neg q7] at b2
  rw [if_neg q7, if_neg q7, if_pos n0]
  obtain ⟨M3, c1, c2, c3⟩ := e_X5_skips 8 (by omega) hn hp hT2 b2
  have hT3 := hT2.x (me_90 c3)
  have hS3 := ((hS.n a3).n b3).n c3
  have s3 := ((me_90 a3).tr (me_90 b3)).tr (me_90 c3)
  rw [c1, zz_bd_some]
  by_cases q8 : t_iw T p 8 = true
  · rw [if_pos q8] at c2
    rw [if_pos q8, if_pos q8, if_neg n1, e_X5_isNumber c2, zz_bd_some]
    unfold it_let
    by_cases qn : it_num T (t_2 T p) 9999 = true
    · rw [if_pos qn, if_pos qn, if_neg n1]
      obtain ⟨M4, d1, d2⟩ := e_X5_let (k := 1) (N := 9999) (Or.inl rfl) (by omega) hn h2.2.1 hT3 c2 hS3 qn
      exact ⟨1, M4, d1, it_C.tr s3 d2⟩
    · rw [if_neg qn, if_neg qn, if_pos n0]
      exact ⟨0, M3, rfl, s3, rfl, c2.2.1⟩
  rw [if_neg q8] at c2
  rw [if_neg q8, if_neg q8, if_pos n0]
  obtain ⟨M4, d1, d2, d3⟩ := e_X5_skips 9 (by omega) hn hp hT3 c2
  have hT4 := hT3.x (me_90 d3)
  have s4 := s3.tr (me_90 d3)
  rw [d1, zz_bd_some]
  by_cases q9 : t_iw T p 9 = true
  · rw [if_pos q9] at d2
    rw [if_pos q9, if_pos q9, if_neg n1, e_X5_isNumber d2, zz_bd_some]
    unfold it_let
    by_cases qn : it_num T (t_2 T p) 9 = true
    · rw [if_pos qn, if_pos qn, if_neg n1]
      obtain ⟨M5, e1, e2⟩ := e_X5_let (k := 2) (N := 9) (Or.inr rfl) (by omega) hn h2.2.1 hT4 d2 (hS3.n d3) qn
      exact ⟨1, M5, e1, it_C.tr s4 e2⟩
    · rw [if_neg qn, if_neg qn, if_pos n0]
      exact ⟨0, M4, rfl, s4, rfl, d2.2.1⟩
  rw [if_neg q9] at d2
  rw [if_neg q9, if_neg q9, if_pos n0]
  exact ⟨0, M4, rfl, s4, rfl, d2.2.1⟩
/-! What an item leaves is in order. -/
theorem it_num_hi {T : ms_T} {p : Nat} {hi : Int32} (h : it_num T p hi = true) : 0 ≤ t_3 T p ∧ t_3 T p ≤ hi := by
  unfold it_num at h
  rw [Bool.and_eq_true, decide_eq_true_eq, decide_eq_true_eq] at h
  exact ⟨(t_3_ok T p).1, h.2⟩
theorem it_may_hi {T : ms_T} {p i : Nat} {hi w : Int32} {x : Nat × Int32} (h : it_may T p i hi w = .inr x) (hw : 0 ≤ w ∧ w ≤ hi) : 0 ≤ x.2 ∧ x.2 ≤ hi := by
  unfold it_may at h
  split at h
  · split at h
    · rename_i q
      injection h with h
      rw [← h]
      exact it_num_hi q
    · exact absurd h (by simp)
  · injection h with h
    rw [← h]
    exact hw
theorem it_be_01 {T : ms_T} {p i j : Nat} {x y w : Int32} (hx : x = 0 ∨ x = 1) (hy : y = 0 ∨ y = 1) (hw : w = 0 ∨ w = 1) : ms_may 0 (it_be T p i j x y w).2 ∧ ms_may 3 (it_be T p i j x y w).2 := by
  have : (it_be T p i j x y w).2 = 0 ∨ (it_be T p i j x y w).2 = 1 := by
    unfold it_be
    split
    · exact hx
    · split
      · exact hy
      · exact hw
  rcases this with q | q <;> rw [q] <;> exact ⟨⟨by decide, by decide⟩, ⟨by decide, by decide⟩⟩
theorem it_V_ok {V : Nat → Int32} {v : Nat} {a b c d : Int32} (h : ms_okV V) (hv : v < 4) (ha : ms_may 0 a) (hb : ms_may 1 b) (hc : ms_may 2 c) (hd : ms_may 3 d) : ms_okV (it_V V v a b c d) := (((h.set hv (by omega) ha).set hv (by omega) hb).set hv (by omega) hc).set hv (by omega) hd
theorem it_V_3 {V : Nat → Int32} {v : Nat} {a b c d : Int32} : it_V V v a b c d 3 = V 3 := by
  unfold it_V
  rw [ms_u_ne (by omega), ms_u_ne (by omega), ms_u_ne (by omega), ms_u_ne (by omega)]
def it_fine (T : ms_T) (p : Nat) (o : Sum Nat (Nat × ms_S)) : Prop := Sum.elim (fun f => f ≤ T.1) (fun x => p ≤ x.1 ∧ x.1 ≤ T.1 ∧ ms_okS x.2) o
theorem it_vat_fine {T : ms_T} {p : Nat} {S : ms_S} (hp : p ≤ T.1) (hok : ms_okS S) : it_fine T p (it_vat T p S) := by
  have h1 := t_1_b hp
  have h2 := t_2_b hp
  unfold it_vat
  by_cases q : it_num T p 3 = true
  · obtain ⟨q0, v, hv, ev⟩ := it_num_v (N := 3) rfl (by omega) q
    have hv4 : v < 4 := by omega
    rw [if_pos q, ev, me_n (show v < 2 ^ 31 by omega)]
    obtain ⟨⟨w1, w2, w3, w4, w5⟩, w6⟩ := hok.1.2.2 v hv4
    have k1 := it_be_le (i := 10) (j := 11) (x := 0) (y := 1) (w := S.1 (4 + 4 * v + 0)) h2.2.1
    have b1 := it_be_01 (T := T) (p := t_2 T p) (i := 10) (j := 11) (Or.inl rfl) (Or.inr rfl) (show S.1 (4 + 4 * v + 0) = 0 ∨ S.1 (4 + 4 * v + 0) = 1 from w1)
    unfold it_vat2
    cases hw : it_may T (it_be T (t_2 T p) 10 11 0 1 (S.1 (4 + 4 * v + 0))).1 12 99 (S.1 (4 + 4 * v + 1)) with
    | inl f =>
      unfold it_may at hw
      split at hw
      · split at hw
        · exact absurd hw (by simp)
        · injection hw with hw
          show f ≤ T.1
          rw [← hw]
          exact (t_1_b (t_2_b k1.2).2.1).2
      · exact absurd hw (by simp)
    | inr w =>
      have k2 := it_may_le k1.2 hw
      have b2 := it_may_hi hw ⟨w2, w3⟩
      simp only [Sum.elim_inr]
      cases hh : it_may T w.1 13 99999 (S.1 (4 + 4 * v + 2)) with
      | inl f =>
        unfold it_may at hh
        split at hh
        · split at hh
          · exact absurd hh (by simp)
          · injection hh with hh
            show f ≤ T.1
            rw [← hh]
            exact (t_1_b (t_2_b k2.2).2.1).2
        · exact absurd hh (by simp)
      | inr h =>
        have k3 := it_may_le k2.2 hh
        have b3 := it_may_hi hh ⟨w4, w5⟩
        have k4 := it_be_le (i := 14) (j := 15) (x := 1) (y := 0) (w := S.1 (4 + 4 * v + 3)) k3.2
        have b4 := it_be_01 (T := T) (p := h.1) (i := 14) (j := 15) (Or.inr rfl) (Or.inl rfl) (show S.1 (4 + 4 * v + 3) = 0 ∨ S.1 (4 + 4 * v + 3) = 1 from w6)
        refine ⟨?_, k4.2, hok.vats (it_V_ok hok.1 hv4 b1.1 b2 b3 b4.2) (by rw [it_V_3]; exact hok.2.1)⟩
        have := k4.1
        simp only
        omega
  · rw [if_neg q]
    exact h1.2
theorem it_dip_fine {T : ms_T} {p : Nat} {S : ms_S} (hp : p ≤ T.1) (hok : ms_okS S) (hL : ∀ c, c < 10 → ms_Lok (S.2.2 c).2) : it_fine T p (it_dip T p S) := by
  have h1 := t_1_b hp
  have h2 := t_2_b hp
  have h21 := t_1_b h2.2.1
  have h3 := t_2_b h2.2.1
  have h31 := t_1_b h3.2.1
  have h4 := t_2_b h3.2.1
  unfold it_dip
  split
  · rename_i q
    split
    · split
      · rename_i q3
        obtain ⟨q0, c, hc, ec⟩ := it_num_c hok.2.2.1 q
        obtain ⟨q30, v, hv, ev⟩ := it_num_v (N := 3) rfl (by omega) q3
        have hc10 : c < 10 := by have := hok.2.2.1; omega
        rw [ec, ev, me_n (show c < 2 ^ 31 by omega), me_n (show v < 2 ^ 31 by omega)]
        refine ⟨by simp only; omega, by simp only; omega, ?_⟩
        have hX := ms_dv_ok (kd := (S.2.2 c).1) (X := ((S.2.2 c).2, S.1)) (v := v) (by omega) ⟨hL c hc10, hok.1⟩
        exact hok.cand hX.2 (by unfold ms_dv; simp only; rw [ms_u_ne (by omega), ms_u_ne (by omega)]; exact hok.2.1) (hok.2.2.2 c hc10)
      · exact h31.2
    · exact h21.2
  · exact h1.2
theorem it_item_fine {T : ms_T} {p : Nat} {S : ms_S} (hp : p ≤ T.1) (hok : ms_okS S) (hL : ∀ c, c < 10 → ms_Lok (S.2.2 c).2) : it_fine T (t_2 T p) (it_item T p S) := by
  have h1 := t_1_b hp
  have h2 := t_2_b hp
  have h21 := t_1_b h2.2.1
  have h3 := t_2_b h2.2.1
  unfold it_item
  split
  · rename_i qk
    split
    · rename_i q10
      refine ⟨Nat.le_refl _, h2.2.1, ms_add_ok hok q10 ⟨qk, ?_⟩⟩
      unfold it_kn
      repeat' split
      all_goals decide
    · exact h1.2
  · split
    · exact it_vat_fine h2.2.1 hok
    · split
      · exact it_dip_fine h2.2.1 hok hL
      · split
        · unfold it_let
          split
          · rename_i q
            exact ⟨by simp only; omega, h3.2.1, hok.vats (hok.1.let1 (it_num_hi q)) (by rw [ms_u_ne (by omega)]; exact hok.2.1)⟩
          · exact h21.2
        · split
          · unfold it_let
            split
            · rename_i q
              exact ⟨by simp only; omega, h3.2.1, hok.vats (hok.1.let2 (it_num_hi q)) (by rw [ms_u_ne (by omega)]; exact hok.2.1)⟩
            · exact h21.2
          · exact h1.2
theorem it_item_end {T : ms_T} {p : Nat} {S : ms_S} (h : t_0 T p ≠ 1) : it_item T p S = .inl (t_1 T p) := by
  have e : ∀ i, ¬ t_iw T p i = true := fun i z => h ((t_iw_iff T p i).mp z).1
  unfold it_item it_kn
  rw [if_neg (e 0), if_neg (e 1), if_neg (e 2), if_neg (e 3), if_neg (e 4), if_neg (e 5), if_neg (by decide), if_neg (e 6), if_neg (e 7), if_neg (e 8), if_neg (e 9)]
def it_text (T : ms_T) : Nat → Nat → Nat → ms_S → Sum Nat (Nat × ms_S)
  | 0, _, p, _ => .inl (t_1 T p)
  | d + 1, n, p, S => Sum.elim (fun f => .inl f) (fun x => if t_0 T x.1 = 0 then .inr (n + 1, x.2) else if t_0 T x.1 = 3 then it_text T d (n + 1) (t_2 T x.1) x.2 else .inl (t_1 T x.1)) (it_item T p S)
/-- the class's text: how many items, or the fault -/
theorem e_X5_tell19 {T : ms_T} (hn : T.1 ≤ 120) : ∀ (d k n p : Nat) (M : zz_M) (S : ms_S), T.1 + 1 < k + n → n ≤ p → T.1 < p + d → p ≤ T.1 → ms_TC M T → t_C M T p → ms_SC M (90 + 1) S → ms_okS S →
    ∃ (r : Int32) (M' : zz_M), b_X5_tell_19 k 90 (nI (n + 1)) M = some (r, M') ∧ me_same (fun q => 90 ≤ q ∧ q < 119) M M' ∧ Sum.elim (fun f => f ≤ T.1 ∧ r = -1 - nI f) (fun x => x.1 ≤ 200 ∧ r = nI x.1 ∧ ms_SC M' (90 + 1) x.2 ∧ ms_okS x.2) (it_text T d n p S)
  | 0, k, n, p, M, S, hk, hnp, hd, hp, hT, hC, hS, hok => by omega
  | d + 1, k, n, p, M, S, hk, hnp, hd, hp, hT, hC, hS, hok => by
    obtain ⟨k, rfl⟩ : ∃ j, k = j + 1 := ⟨k - 1, by omega⟩
    have h1 := t_1_b hp
    have h2 := t_2_b hp
    have hL : ∀ c, c < 10 → ms_Lok (S.2.2 c).2 := fun c hc => (hS.2.2 c hc).2.2.2.2.2
    have hfine := it_item_fine hp hok hL
    unfold b_X5_tell_19 it_text
    by_cases q120 : n = 120
    · have hpT : p = T.1 := by omega
      have ht1 : t_1 T p = T.1 := by omega
      have ht0 : t_0 T p ≠ 1 := by
        unfold t_0
        rw [if_neg (by omega)]
        decide
      rw [if_pos (show (120 : Int32) < nI (n + 1) from by rw [q120]; decide), it_item_end ht0, hC.2.1]
      exact ⟨_, M, rfl, me_same.rf, h1.2, rfl⟩
    rw [if_neg (me_nlt (y := 120) 120 (n + 1) rfl (by omega) (by decide))]
    obtain ⟨r, M1, a1, a2, a3⟩ := e_X5_item hn hp hT hC hS hok
    rw [a1, zz_bd_some]
    cases hit : it_item T p S with
    | inl f =>
      rw [hit] at a3 hfine
      obtain ⟨a3, a4⟩ := a3
      rw [if_pos a3, a4]
      exact ⟨_, M1, rfl, a2, hfine, rfl⟩
    | inr x =>
      rw [hit] at a3 hfine
      obtain ⟨a3, a4, a5⟩ := a3
      obtain ⟨f1, f2, f3⟩ := hfine
      have h0 := t_0_le T x.1
      have g1 := t_1_b f2
      have g2 := t_2_b f2
      rw [if_neg (by rw [a3]; decide), a4.1, a4.2.1]
      simp only [Sum.elim_inr]
      by_cases z0 : t_0 T x.1 = 0
      · rw [if_pos (show nI (t_0 T x.1) = 0 by rw [z0]; rfl), if_pos z0]
        exact ⟨_, M1, rfl, a2, by simp only; omega, rfl, a5, f3⟩
      · rw [if_neg (show ¬ nI (t_0 T x.1) = 0 from fun z => z0 ((nI_eq (a := t_0 T x.1) (b := 0) (by omega) (by omega)).mp z)), if_neg z0]
        have hlt := t_0_lt z0
        by_cases z3 : t_0 T x.1 = 3
        · rw [if_pos (show nI (t_0 T x.1) = 3 by rw [z3]; rfl), if_pos z3]
          obtain ⟨M2, b1, b2, b3⟩ := e_X5_next hn g2.2.1 a4.2.2.1 (hT.x a2)
          rw [b1, zz_bd_some, me_wr, nI_1]
          have hlt2 := g2.2.2 hlt
          obtain ⟨r', M3, c1, c2, c3⟩ := e_X5_tell19 hn d k (n + 1) (t_2 T x.1) M2 x.2 (by omega) (by omega) (by omega) g2.2.1 ((hT.x a2).x (me_90 b3)) b2 (a5.n b3) f3
          exact ⟨r', M3, c1, (a2.tr (me_90 b3)).tr c2, c3⟩
        · rw [if_neg (show ¬ nI (t_0 T x.1) = 3 from fun z => z3 ((nI_eq (a := t_0 T x.1) (b := 3) (by omega) (by omega)).mp z)), if_neg z3]
          exact ⟨_, M1, rfl, a2, g1.2, rfl⟩
theorem e_X5_tell {T : ms_T} {M : zz_M} {S : ms_S} (hn : T.1 ≤ 120) (hT : ms_TC M T) (hS : ms_SC M 1 S) (hok : ms_okS S) :
    ∃ (r : Int32) (M' : zz_M), f_X5_tell 90 1 M = some (r, M') ∧ me_same (fun q => 90 ≤ q ∧ q < 119) M M' ∧ Sum.elim (fun f => f ≤ T.1 ∧ r = -1 - nI f) (fun x => x.1 ≤ 200 ∧ r = nI x.1 ∧ ms_SC M' (90 + 1) x.2 ∧ ms_okS x.2) (it_text T (T.1 + 1) 0 0 S) := by
  obtain ⟨M1, a1, a2, a3⟩ := e_X1_become (a := 90 + 1) (b := 1) (by omega) hS hok
  have s1 : me_same (fun q => 90 ≤ q ∧ q < 119) M M1 := a3.wk (fun q hq => by omega)
  have e0 : me_same (fun q => q = 90) M1 (zz_si M1 90 4 0) := me_same.s1
  obtain ⟨M2, b1, b2, b3⟩ := e_X5_next (p := 0) hn (Nat.zero_le _) (M := zz_si M1 90 4 0) (me_hit rfl rfl) ((hT.x s1).x (me_90 e0))
  obtain ⟨r, M3, c1, c2, c3⟩ := e_X5_tell19 hn (T.1 + 1) zz_fuel 0 0 M2 S (by show _ < 5000 + _; omega) (Nat.le_refl _) (by omega) (Nat.zero_le _) (((hT.x s1).x (me_90 e0)).x (me_90 b3)) b2 ((a2.n e0).n b3) hok
  refine ⟨r, M3, ?_, ((s1.tr (me_90 e0)).tr (me_90 b3)).tr c2, c3⟩
  unfold f_X5_tell
  rw [a1, zz_bd_some, me_wr, b1, zz_bd_some]
  exact c1
