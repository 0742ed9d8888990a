/-! The reference's items. -/
def rs_same (M M' : zz_M) : Prop := (∀ q, q ≠ 129 → q ≠ 130 → zz_i M' q = zz_i M q) ∧ (∀ k, k ≠ 7 → k ≠ 8 → k ≠ 9 → k ≠ 11 → k ≠ 12 → zz_i M' 129 k = zz_i M 129 k) ∧ ∀ q, q ≠ 129 → zz_j M' q = zz_j M q
theorem rs_same.rf {M : zz_M} : rs_same M M := ⟨fun _ _ _ => rfl, fun _ _ _ _ _ _ => rfl, fun _ _ => rfl⟩
theorem rs_same.tr {M M1 M2 : zz_M} (h1 : rs_same M M1) (h2 : rs_same M1 M2) : rs_same M M2 := ⟨fun q a b => (h2.1 q a b).trans (h1.1 q a b), fun k a b c d e => (h2.2.1 k a b c d e).trans (h1.2.1 k a b c d e), fun q a => (h2.2.2 q a).trans (h1.2.2 q a)⟩
theorem rs_same.mr {P : Nat → Prop} {M M' : zz_M} (h : mr_same P M M') : rs_same M M' := ⟨fun q _ b => h.ot b, fun k _ _ _ _ _ => by rw [h.ot (by decide)], fun q _ => by rw [h.j]⟩
def ts_same (M M' : zz_M) : Prop := (∀ q, q ≠ 129 → zz_i M' q = zz_i M q) ∧ (∀ k, k ≠ 7 → k ≠ 8 → k ≠ 9 → k ≠ 11 → k ≠ 12 → zz_i M' 129 k = zz_i M 129 k) ∧ ∀ q, q ≠ 129 → zz_j M' q = zz_j M q
theorem ts_same.rf {M : zz_M} : ts_same M M := ⟨fun _ _ => rfl, fun _ _ _ _ _ _ => rfl, fun _ _ => rfl⟩
theorem ts_same.tr {M M1 M2 : zz_M} (h1 : ts_same M M1) (h2 : ts_same M1 M2) : ts_same M M2 := ⟨fun q a => (h2.1 q a).trans (h1.1 q a), fun k a b c d e => (h2.2.1 k a b c d e).trans (h1.2.1 k a b c d e), fun q a => (h2.2.2 q a).trans (h1.2.2 q a)⟩
theorem ts_same.rs {M M' : zz_M} (h : ts_same M M') : rs_same M M' := ⟨fun q a _ => h.1 q a, h.2.1, h.2.2⟩
theorem tr_same.ts {M M' : zz_M} (h : tr_same M M') : ts_same M M' := ⟨h.1, fun k a b c d _ => h.2.1 k a b c d, h.2.2⟩
theorem tr_same.g {M M' : zz_M} (h : tr_same M M') : zz_i M' 129 12 = zz_i M 129 12 := h.2.1 12 (by decide) (by decide) (by decide) (by decide)
theorem ts_same.s12 {M : zz_M} {v : Int32} : ts_same M (zz_si M 129 12 v) := ⟨fun q a => zz_i_si_ne a, fun k _ _ _ _ e => me_ine (by omega), fun _ _ => rfl⟩
theorem ms_TM.rs {M M' : zz_M} {T : ms_T} (h : ms_TM M T) (e : rs_same M M') : ms_TM M' T := h.fr (e.2.1 6 (by decide) (by decide) (by decide) (by decide) (by decide)) (e.1 134 (by decide) (by decide))
theorem ms_TM.ts {M M' : zz_M} {T : ms_T} (h : ms_TM M T) (e : ts_same M M') : ms_TM M' T := h.rs e.rs
theorem ms_SM.ts {M M' : zz_M} {S : ms_S} (h : ms_SM M 130 S) (hn : S.2.1 ≤ 10) (e : ts_same M M') : ms_SM M' 130 S := h.fr hn (fun j _ => by rw [e.1 130 (by decide)])
theorem t_D.s12 {M : zz_M} {T : ms_T} {p : Nat} {v : Int32} (h : t_D M T p) : t_D (zz_si M 129 12 v) T p := by
  obtain ⟨h1, h2, h3, h4, h5, h6, h7⟩ := h
  exact ⟨by rw [me_ine (by omega)]; exact h1, by rw [me_ine (by omega)]; exact h2, by rw [me_ine (by omega)]; exact h3, fun z => by rw [me_ine (by omega)]; exact h4 z, fun z => by rw [me_ine (by omega)]; exact h5 z, fun z => by rw [me_ine (by omega)]; exact h6 z, h7⟩
theorem t_D.row {M M' : zz_M} {T : ms_T} {p : Nat} (h : t_D M T p) (e : me_same (fun q => q = 130) M M') : t_D M' T p := by
  unfold t_D
  rw [e.at (by decide), e.2]
  exact h
theorem t_D.srt {M : zz_M} {T : ms_T} {p : Nat} (h : t_D M T p) (k : Nat) (hk : k < 3) : (zz_i M 129 7 = nI k) = (t_0 T p = k) := by
  have h0 := t_0_le T p
  rw [h.1]
  apply propext
  by_cases q4 : t_0 T p = 4
  · rw [if_pos q4]
    constructor
    · intro z
      have := (nI_eq (a := 3) (b := k) (by omega) (by omega)).mp z
      omega
    · intro z; omega
  · rw [if_neg q4, nI_eq (by omega) (by omega)]
theorem rt_number {T : ms_T} {M : zz_M} {p : Nat} {hi : Int32} (hok : ms_okT T) (hp : p ≤ T.1) (hT : ms_TM M T) (hD : t_D M T p) (hg : zz_i M 129 12 = 1) :
    ∃ (r : Int32) (M' : zz_M), f_X9_wantNumber 129 0 hi M = some (r, M') ∧ ts_same M M' ∧ (it_num T p hi = true → zz_i M' 129 12 = 1 ∧ t_D M' T (t_2 T p) ∧ r = t_3 T p) ∧ (¬ it_num T p hi = true → zz_i M' 129 12 = 0 ∧ zz_i M' 129 8 = nI (t_1 T p)) := by
  have fail : ∀ x : Int32, ∃ (r : Int32) (M' : zz_M), b_X9_wantNumber_34 129 x 129 M = some (r, M') ∧ ts_same M M' ∧ zz_i M' 129 12 = 0 ∧ zz_i M' 129 8 = nI (t_1 T p) := by
    intro x
    unfold b_X9_wantNumber_34 b_X9_wantNumber_35
    rw [if_pos me_bit0, me_wr, me_hit rfl rfl, if_pos (show (0 : Int32) = 0 from rfl)]
    exact ⟨x, _, rfl, ts_same.s12, me_hit rfl rfl, by rw [me_ine (by omega)]; exact hD.2.1⟩
  unfold f_X9_wantNumber
  rw [me_wr, hg, if_neg (show ¬ (1 : Int32) = 0 by decide)]
  by_cases q : t_0 T p = 2
  · rw [if_pos (show zz_i M 129 7 = 2 from (hD.srt 2 (by omega)).mpr q), e_X9_in, zz_bd_some, hD.2.2.2.1 q]
    have h3 := (t_3_ok T p).1
    rcases ms_in_cases (t_3 T p) 0 hi with ⟨z, z2⟩ | ⟨z, z2, z3⟩
    · have nn : ¬ it_num T p hi = true := by
        intro w
        exact z2 (it_num_hi w)
      rw [z, if_pos (show (0 : Int32) = 0 from rfl)]
      obtain ⟨r, M', a1, a2, a3, a4⟩ := fail (t_3 T p)
      exact ⟨r, M', a1, a2, fun w => absurd w nn, fun _ => ⟨a3, a4⟩⟩
    · have yy : it_num T p hi = true := by
        unfold it_num
        rw [Bool.and_eq_true, decide_eq_true_eq, decide_eq_true_eq]
        exact ⟨q, z3⟩
      rw [z, if_neg (show ¬ (1 : Int32) = 0 by decide)]
      unfold b_X9_wantNumber_35
      rw [if_pos me_bit1, me_wr, me_hit rfl rfl, if_neg (show ¬ (1 : Int32) = 0 by decide)]
      obtain ⟨M', a1, a2, a3⟩ := e_X9_advance hok (t_2_b hp).2.1 (M := zz_si M 129 12 1) (by rw [me_ine (by omega)]; exact hD.2.2.1) (hT.ts ts_same.s12)
      rw [a1, zz_bd_some]
      exact ⟨t_3 T p, M', rfl, ts_same.s12.tr a3.ts, fun _ => ⟨by rw [a3.g, me_hit rfl rfl], a2, rfl⟩, fun w => absurd yy w⟩
  · have nn : ¬ it_num T p hi = true := by
      unfold it_num
      rw [decide_eq_false q, Bool.false_and]
      decide
    rw [if_neg (show ¬ zz_i M 129 7 = 2 from fun z => q ((hD.srt 2 (by omega)).mp z))]
    obtain ⟨r, M', a1, a2, a3, a4⟩ := fail (zz_i M 129 11)
    exact ⟨r, M', a1, a2, fun w => absurd w nn, fun _ => ⟨a3, a4⟩⟩
theorem rt_number0 {M : zz_M} {hi : Int32} (hg : zz_i M 129 12 = 0) : ∃ (r : Int32) (M' : zz_M), f_X9_wantNumber 129 0 hi M = some (r, M') ∧ ts_same M M' ∧ zz_i M' 129 12 = 0 ∧ zz_i M' 129 8 = zz_i M 129 8 := by
  unfold f_X9_wantNumber b_X9_wantNumber_34 b_X9_wantNumber_35
  rw [me_wr, hg, if_pos (show (0 : Int32) = 0 from rfl), if_pos me_bit0, me_wr, me_hit rfl rfl, if_pos (show (0 : Int32) = 0 from rfl)]
  exact ⟨_, _, rfl, ts_same.s12, me_hit rfl rfl, me_ine (by omega)⟩
theorem rt_word {T : ms_T} {M : zz_M} {p i : Nat} {y : Int64} (hok : ms_okT T) (hp : p ≤ T.1) (hT : ms_TM M T) (hD : t_D M T p) (hg : zz_i M 129 12 = 1) (hy : t_code i y) :
    ∃ M' : zz_M, f_X9_wantWord 129 y M = some ((), M') ∧ ts_same M M' ∧ (t_iw T p i = true → zz_i M' 129 12 = 1 ∧ t_D M' T (t_2 T p)) ∧ (¬ t_iw T p i = true → zz_i M' 129 12 = 0 ∧ zz_i M' 129 8 = nI (t_1 T p)) := by
  unfold f_X9_wantWord b_X9_wantWord_20 b_X9_wantWord_21
  rw [hg, if_neg (show ¬ (1 : Int32) = 0 by decide), e_X9_isWord hp hok.1 hD hy, zz_bd_some]
  by_cases q : t_iw T p i = true
  · rw [if_pos q, if_neg (show ¬ (1 : Int32) = 0 by decide), if_pos me_bit1, me_wr, me_hit rfl rfl, if_neg (show ¬ (1 : Int32) = 0 by decide)]
    obtain ⟨M', a1, a2, a3⟩ := e_X9_advance hok (t_2_b hp).2.1 (M := zz_si M 129 12 1) (by rw [me_ine (by omega)]; exact hD.2.2.1) (hT.ts ts_same.s12)
    rw [a1, zz_bd_some]
    exact ⟨M', rfl, ts_same.s12.tr a3.ts, fun _ => ⟨by rw [a3.g, me_hit rfl rfl], a2⟩, fun w => absurd q w⟩
  · rw [if_neg q, if_pos (show (0 : Int32) = 0 from rfl), if_pos me_bit0, me_wr, me_hit rfl rfl, if_pos (show (0 : Int32) = 0 from rfl)]
    exact ⟨_, rfl, ts_same.s12, fun w => absurd w q, fun _ => ⟨me_hit rfl rfl, by rw [me_ine (by omega)]; exact hD.2.1⟩⟩
theorem rt_word0 {M : zz_M} {y : Int64} (hg : zz_i M 129 12 = 0) : ∃ M' : zz_M, f_X9_wantWord 129 y M = some ((), M') ∧ ts_same M M' ∧ zz_i M' 129 12 = 0 ∧ zz_i M' 129 8 = zz_i M 129 8 := by
  unfold f_X9_wantWord b_X9_wantWord_20 b_X9_wantWord_21
  rw [hg, if_pos (show (0 : Int32) = 0 from rfl), if_pos me_bit0, me_wr, me_hit rfl rfl, if_pos (show (0 : Int32) = 0 from rfl)]
  exact ⟨_, rfl, ts_same.s12, me_hit rfl rfl, me_ine (by omega)⟩
theorem rt_be {T : ms_T} {M : zz_M} {p i j : Nat} {y1 y2 : Int64} (w : Int32) (hok : ms_okT T) (hp : p ≤ T.1) (hT : ms_TM M T) (hD : t_D M T p) (hg : zz_i M 129 12 = 1) (h1 : t_code i y1) (h2 : t_code j y2) :
    ∃ M' : zz_M, f_X9_mayBe 129 y1 y2 w M = some ((it_be T p i j 0 1 w).2, M') ∧ ts_same M M' ∧ zz_i M' 129 12 = 1 ∧ t_D M' T (it_be T p i j 0 1 w).1 := by
  obtain ⟨M', a1, a2, a3⟩ := e_X9_advance hok (t_2_b hp).2.1 hD.2.2.1 hT
  unfold f_X9_mayBe it_be b_X9_mayBe_26 b_X9_mayBe_39
  rw [hg, if_neg (show ¬ (1 : Int32) = 0 by decide), e_X9_isWord hp hok.1 hD h1, zz_bd_some]
  by_cases q : t_iw T p i = true
  · rw [if_pos q, if_neg (show ¬ (1 : Int32) = 0 by decide), e_X9_isWord hp hok.1 hD h1, zz_bd_some, if_pos q, if_neg (show ¬ (1 : Int32) = 0 by decide), a1, zz_bd_some, if_pos q]
    exact ⟨M', rfl, a3.ts, by rw [a3.g, hg], a2⟩
  · rw [if_neg q, if_pos (show (0 : Int32) = 0 from rfl), e_X9_isWord hp hok.1 hD h2, zz_bd_some, if_neg q]
    by_cases q2 : t_iw T p j = true
    · rw [if_pos q2, if_neg (show ¬ (1 : Int32) = 0 by decide), e_X9_isWord hp hok.1 hD h1, zz_bd_some, if_neg q, if_pos (show (0 : Int32) = 0 from rfl), a1, zz_bd_some, if_pos q2]
      exact ⟨M', rfl, a3.ts, by rw [a3.g, hg], a2⟩
    · rw [if_neg q2, if_pos (show (0 : Int32) = 0 from rfl), if_neg q2]
      exact ⟨M, rfl, ts_same.rf, hg, hD⟩
theorem rt_be0 {M : zz_M} {y1 y2 : Int64} (w : Int32) (hg : zz_i M 129 12 = 0) : f_X9_mayBe 129 y1 y2 w M = some (w, M) := by
  unfold f_X9_mayBe
  rw [hg, if_pos (show (0 : Int32) = 0 from rfl)]
theorem rt_may {T : ms_T} {M : zz_M} {p i : Nat} {y : Int64} {hi : Int32} (w : Int32) (hok : ms_okT T) (hp : p ≤ T.1) (hT : ms_TM M T) (hD : t_D M T p) (hg : zz_i M 129 12 = 1) (h1 : t_code i y) :
    ∃ (r : Int32) (M' : zz_M), f_X9_mayWant 129 y 0 hi w M = some (r, M') ∧ ts_same M M' ∧ Sum.elim (fun f => zz_i M' 129 12 = 0 ∧ zz_i M' 129 8 = nI f) (fun x => r = x.2 ∧ zz_i M' 129 12 = 1 ∧ t_D M' T x.1) (it_may T p i hi w) := by
  unfold f_X9_mayWant it_may
  rw [hg, if_neg (show ¬ (1 : Int32) = 0 by decide), e_X9_isWord hp hok.1 hD h1, zz_bd_some]
  by_cases q : t_iw T p i = true
  · obtain ⟨M1, a1, a2, a3⟩ := e_X9_advance hok (t_2_b hp).2.1 hD.2.2.1 hT
    obtain ⟨r, M2, b1, b2, b3, b4⟩ := rt_number (hi := hi) hok (t_2_b hp).2.1 (hT.tr a3) a2 (by rw [a3.g, hg])
    rw [if_pos q, if_neg (show ¬ (1 : Int32) = 0 by decide), a1, zz_bd_some, b1, zz_bd_some, if_pos q]
    refine ⟨r, M2, rfl, a3.ts.tr b2, ?_⟩
    by_cases q2 : it_num T (t_2 T p) hi = true
    · rw [if_pos q2]
      obtain ⟨c1, c2, c3⟩ := b3 q2
      exact ⟨c3, c1, c2⟩
    · rw [if_neg q2]
      exact b4 q2
  · rw [if_neg q, if_pos (show (0 : Int32) = 0 from rfl), if_neg q]
    exact ⟨w, M, rfl, ts_same.rf, rfl, hg, hD⟩
theorem rt_may0 {M : zz_M} {y : Int64} {hi : Int32} (w : Int32) (hg : zz_i M 129 12 = 0) : f_X9_mayWant 129 y 0 hi w M = some (w, M) := by
  unfold f_X9_mayWant
  rw [hg, if_pos (show (0 : Int32) = 0 from rfl)]
/-- the reference behind an item -/
def it_D (T : ms_T) (M M' : zz_M) (o : Sum Nat (Nat × ms_S)) : Prop := rs_same M M' ∧ Sum.elim (fun f => zz_i M' 129 12 = 0 ∧ zz_i M' 129 8 = nI f) (fun x => zz_i M' 129 12 = 1 ∧ t_D M' T x.1 ∧ ms_SM M' 130 x.2) o
theorem it_D.tr {T : ms_T} {M M1 M' : zz_M} {o : Sum Nat (Nat × ms_S)} (h1 : rs_same M M1) (h : it_D T M1 M' o) : it_D T M M' o := ⟨h1.tr h.1, h.2⟩
theorem t_not {T : ms_T} {p : Nat} (h1 : t_iw T p 14 = true) (h2 : t_iw T p 15 = true) : False := by
  have a := ((t_iw_iff T p 14).mp h1).2.2 0 (by decide)
  have b := ((t_iw_iff T p 15).mp h2).2.2 0 (by decide)
  rw [a] at b
  exact absurd b (by decide)
theorem it_be_sw {T : ms_T} {p : Nat} {w : Int32} : it_be T p 15 14 0 1 w = it_be T p 14 15 1 0 w := by
  unfold it_be
  by_cases q : t_iw T p 14 = true
  · rw [if_pos q, if_neg (fun z => t_not q z), if_pos q]
  · rw [if_neg q, if_neg q]
theorem rt_vat {T : ms_T} {M : zz_M} {p : Nat} {S : ms_S} (hok : ms_okT T) (hp : p ≤ T.1) (hT : ms_TM M T) (hD : t_D M T p) (hg : zz_i M 129 12 = 1) (hS : ms_SM M 130 S) (hokS : ms_okS S) :
    ∃ M' : zz_M, f_X9_wantVat 129 M = some ((), M') ∧ it_D T M M' (it_vat T (t_2 T p) S) := by
  have h2 := t_2_b hp
  have hn := hokS.2.2.1
  obtain ⟨M1, a1, a2, a3⟩ := e_X9_advance hok h2.2.1 hD.2.2.1 hT
  have hT1 := hT.tr a3
  obtain ⟨r, M2, b1, b2, b3, b4⟩ := rt_number (hi := 3) hok h2.2.1 hT1 a2 (by rw [a3.g, hg])
  have hT2 := hT1.ts b2
  have s2 := a3.ts.tr b2
  -- with a fault nothing more happens
  have fail : ∀ (M3 : zz_M) (x1 : Int32) (v f : Nat), v < 4 → zz_i M3 129 12 = 0 → True := fun _ _ _ _ _ _ => trivial
  unfold f_X9_wantVat it_vat
  rw [a1, zz_bd_some, b1, zz_bd_some]
  by_cases q : it_num T (t_2 T p) 3 = true
  · obtain ⟨q0, v, hv, ev⟩ := it_num_v (N := 3) rfl (by omega) q
    have hv4 : v < 4 := by omega
    obtain ⟨c1, c2, c3⟩ := b3 q
    have h3 := t_2_b h2.2.1
    have hS2 := hS.ts hn s2
    rw [if_pos q, c1, if_neg (show ¬ (1 : Int32) = 0 by decide), c3, ev, me_n (show v < 2 ^ 31 by omega)]
    unfold b_X9_wantVat_23 it_vat2
    have rowv : ∀ k, k < 4 → ∀ M3 : zz_M, ts_same M2 M3 → f_X9_its 129 (nI v) (nI k) M3 = some (S.1 (4 + 4 * v + k), M3) := by
      intro k hk M3 h
      rw [e_X9_its hv4 hk rfl, h.1 130 (by decide), hS2.2.1 _ (by omega) (by omega)]
    have rv0 : ∀ M3 : zz_M, ts_same M2 M3 → f_X9_its 129 (nI v) 0 M3 = some (S.1 (4 + 4 * v + 0), M3) := rowv 0 (by omega)
    have rv1 : ∀ M3 : zz_M, ts_same M2 M3 → f_X9_its 129 (nI v) 1 M3 = some (S.1 (4 + 4 * v + 1), M3) := rowv 1 (by omega)
    have rv2 : ∀ M3 : zz_M, ts_same M2 M3 → f_X9_its 129 (nI v) 2 M3 = some (S.1 (4 + 4 * v + 2), M3) := rowv 2 (by omega)
    have rv3 : ∀ M3 : zz_M, ts_same M2 M3 → f_X9_its 129 (nI v) 3 M3 = some (S.1 (4 + 4 * v + 3), M3) := rowv 3 (by omega)
    obtain ⟨M3, d1, d2, d3, d4⟩ := rt_be (i := 10) (j := 11) (S.1 (4 + 4 * v + 0)) hok h3.2.1 hT2 c2 c1 t_w10 t_w11
    have k1 := it_be_le (i := 10) (j := 11) (x := 0) (y := 1) (w := S.1 (4 + 4 * v + 0)) h3.2.1
    rw [rv0 M2 ts_same.rf, zz_bd_some, d1, zz_bd_some, rv1 M3 d2, zz_bd_some]
    obtain ⟨r4, M4, e1, e2, e3⟩ := rt_may (i := 12) (hi := 99) (S.1 (4 + 4 * v + 1)) hok k1.2 (hT2.ts d2) d4 d3 t_w12
    have s4 := d2.tr e2
    rw [e1, zz_bd_some, rv2 M4 s4, zz_bd_some]
    cases hw : it_may T (it_be T (t_2 T (t_2 T p)) 10 11 0 1 (S.1 (4 + 4 * v + 0))).1 12 99 (S.1 (4 + 4 * v + 1)) with
    | inl f =>
      rw [hw] at e3
      obtain ⟨e3, e4⟩ := e3
      rw [rt_may0 _ e3, zz_bd_some, rv3 M4 s4, zz_bd_some, rt_be0 _ e3, zz_bd_some, if_pos e3]
      exact ⟨M4, rfl, (s2.tr s4).rs, e3, e4⟩
    | inr w =>
      rw [hw] at e3
      obtain ⟨e3, e4, e5⟩ := e3
      have k2 := it_may_le k1.2 hw
      obtain ⟨r5, M5, g1, g2, g3⟩ := rt_may (i := 13) (hi := 99999) (S.1 (4 + 4 * v + 2)) hok k2.2 ((hT2.ts d2).ts e2) e5 e4 t_w13
      have s5 := s4.tr g2
      rw [g1, zz_bd_some, rv3 M5 s5, zz_bd_some]
      simp only [Sum.elim_inr]
      cases hh : it_may T w.1 13 99999 (S.1 (4 + 4 * v + 2)) with
      | inl f =>
        rw [hh] at g3
        obtain ⟨g3, g4⟩ := g3
        rw [rt_be0 _ g3, zz_bd_some, if_pos g3]
        exact ⟨M5, rfl, (s2.tr s5).rs, g3, g4⟩
      | inr h =>
        rw [hh] at g3
        obtain ⟨g3, g4, g5⟩ := g3
        have k3 := it_may_le k2.2 hh
        obtain ⟨M6, l1, l2, l3, l4⟩ := rt_be (i := 15) (j := 14) (S.1 (4 + 4 * v + 3)) hok k3.2 (((hT2.ts d2).ts e2).ts g2) g5 g4 t_w15 t_w14
        have s6 := s5.tr l2
        have hS6 := hS2.ts hn s6
        rw [l1, zz_bd_some, l3, if_neg (show ¬ (1 : Int32) = 0 by decide), e_X9_setVat hv4 (k := 0) (x := 0) (by omega) rfl, zz_bd_some, e_X9_setVat hv4 (k := 1) (x := 1) (by omega) rfl, zz_bd_some, e_X9_setVat hv4 (k := 2) (x := 2) (by omega) rfl, zz_bd_some, e_X9_setVat hv4 (k := 3) (x := 3) (by omega) rfl, zz_bd_some, e3, g3, it_be_sw]
        have mS : mr_same (fun j => 1 ≤ j ∧ j < 20) M6 (zz_si (zz_si (zz_si (zz_si M6 130 (4 + 4 * v + 0) (it_be T (t_2 T (t_2 T p)) 10 11 0 1 (S.1 (4 + 4 * v + 0))).2) 130 (4 + 4 * v + 1) w.2) 130 (4 + 4 * v + 2) h.2) 130 (4 + 4 * v + 3) (it_be T h.1 14 15 1 0 (S.1 (4 + 4 * v + 3))).2) := (((mr_same.si (by omega)).tr (mr_same.si (by omega))).tr (mr_same.si (by omega))).tr (mr_same.si (by omega))
        rw [it_be_sw] at l4
        refine ⟨_, rfl, ((s2.tr s6).rs).tr (rs_same.mr mS), ?_, l4.row mS.1, hS6.vats ((((hS6.2.1.u _).u _).u _).u _) mS⟩
        rw [mS.ot (by decide)]
        exact l3
  · obtain ⟨c1, c2⟩ := b4 q
    rw [if_neg q, c1, if_pos (show (0 : Int32) = 0 from rfl)]
    unfold b_X9_wantVat_23
    have i0 : ∀ M3 : zz_M, f_X9_its 129 0 0 M3 = some (zz_i M3 130 (4 + 4 * 0 + 0), M3) := fun M3 => e_X9_its (v := 0) (k := 0) (by omega) (by omega) rfl 129 M3
    have i1 : ∀ M3 : zz_M, f_X9_its 129 0 1 M3 = some (zz_i M3 130 (4 + 4 * 0 + 1), M3) := fun M3 => e_X9_its (v := 0) (k := 1) (by omega) (by omega) rfl 129 M3
    have i2 : ∀ M3 : zz_M, f_X9_its 129 0 2 M3 = some (zz_i M3 130 (4 + 4 * 0 + 2), M3) := fun M3 => e_X9_its (v := 0) (k := 2) (by omega) (by omega) rfl 129 M3
    have i3 : ∀ M3 : zz_M, f_X9_its 129 0 3 M3 = some (zz_i M3 130 (4 + 4 * 0 + 3), M3) := fun M3 => e_X9_its (v := 0) (k := 3) (by omega) (by omega) rfl 129 M3
    rw [i0, zz_bd_some, rt_be0 _ c1, zz_bd_some, i1, zz_bd_some, rt_may0 _ c1, zz_bd_some, i2, zz_bd_some, rt_may0 _ c1, zz_bd_some, i3, zz_bd_some, rt_be0 _ c1, zz_bd_some, if_pos c1]
    exact ⟨M2, rfl, s2.rs, c1, c2⟩
theorem rt_number_n {T : ms_T} {M : zz_M} {p : Nat} {S : ms_S} (hS : ms_SM M 130 S) : zz_i M 130 (zz_n (0 : Int32)) - 1 = nI S.2.1 - 1 := by
  rw [show zz_n (0 : Int32) = 0 from rfl, hS.1]
theorem rt_dip {T : ms_T} {M : zz_M} {p : Nat} {S : ms_S} (hok : ms_okT T) (hp : p ≤ T.1) (hT : ms_TM M T) (hD : t_D M T p) (hg : zz_i M 129 12 = 1) (hS : ms_SM M 130 S) (hokS : ms_okS S) :
    ∃ M' : zz_M, f_X9_wantDip 129 M = some ((), M') ∧ it_D T M M' (it_dip T (t_2 T p) S) := by
  have h2 := t_2_b hp
  have h3 := t_2_b h2.2.1
  have h4 := t_2_b h3.2.1
  have hn := hokS.2.2.1
  obtain ⟨M1, a1, a2, a3⟩ := e_X9_advance hok h2.2.1 hD.2.2.1 hT
  have hT1 := hT.tr a3
  have hS1 := hS.ts hn a3.ts
  obtain ⟨r, M2, b1, b2, b3, b4⟩ := rt_number (hi := nI S.2.1 - 1) hok h2.2.1 hT1 a2 (by rw [a3.g, hg])
  have hT2 := hT1.ts b2
  have s2 := a3.ts.tr b2
  unfold f_X9_wantDip it_dip
  rw [a1, zz_bd_some, if_pos (show zz_in (0 : Int32) 440 = true from rfl), rt_number_n (T := T) (p := p) hS1, b1, zz_bd_some]
  by_cases q : it_num T (t_2 T p) (nI S.2.1 - 1) = true
  · obtain ⟨q0, c, hc, ec⟩ := it_num_c hn q
    have hc10 : c < 10 := by omega
    obtain ⟨c1, c2, c3⟩ := b3 q
    rw [if_pos q]
    obtain ⟨M3, d1, d2, d3, d4⟩ := rt_word (i := 16) hok h3.2.1 hT2 c2 c1 t_w16
    have hT3 := hT2.ts d2
    have s3 := s2.tr d2
    rw [d1, zz_bd_some]
    by_cases qi : t_iw T (t_2 T (t_2 T p)) 16 = true
    · obtain ⟨e1, e2⟩ := d3 qi
      rw [if_pos qi]
      obtain ⟨r4, M4, g1, g2, g3, g4⟩ := rt_number (hi := 3) hok h4.2.1 hT3 e2 e1
      have s4 := s3.tr g2
      rw [g1, zz_bd_some]
      by_cases q3 : it_num T (t_2 T (t_2 T (t_2 T p))) 3 = true
      · obtain ⟨q30, v, hv, ev⟩ := it_num_v (N := 3) rfl (by omega) q3
        have hv4 : v < 4 := by omega
        obtain ⟨l1, l2, l3⟩ := g3 q3
        have hS4 := hS.ts hn s4
        have hM := hS4.2.2 c hc
        rw [if_pos q3, l1, if_neg (show ¬ (1 : Int32) = 0 by decide), c3, l3, ec, ev, me_n (show c < 2 ^ 31 by omega), me_n (show v < 2 ^ 31 by omega)]
        have hX : ms_okX ((S.2.2 c).2, S.1) := ⟨hM.2.2.2, hokS.1⟩
        obtain ⟨M5, m1, m2, m3, m4⟩ := e_X9_dv (X := ((S.2.2 c).2, S.1)) hc10 hv4 hM hS4.2.1 hX 129
        rw [m1, zz_bd_some]
        refine ⟨M5, rfl, s4.rs.tr (rs_same.mr m4), ?_, l2.row m4.1, hS4.cand m3 m2 (m4.wk (fun j hj => by omega))⟩
        rw [m4.ot (by decide)]
        exact l1
      · obtain ⟨l1, l2⟩ := g4 q3
        rw [if_neg q3, l1, if_pos (show (0 : Int32) = 0 from rfl)]
        exact ⟨M4, rfl, s4.rs, l1, l2⟩
    · obtain ⟨e1, e2⟩ := d4 qi
      rw [if_neg qi]
      obtain ⟨r4, M4, g1, g2, g3, g4⟩ := rt_number0 (hi := 3) e1
      rw [g1, zz_bd_some, g3, if_pos (show (0 : Int32) = 0 from rfl)]
      exact ⟨M4, rfl, (s3.tr g2).rs, g3, by rw [g4]; exact e2⟩
  · obtain ⟨c1, c2⟩ := b4 q
    rw [if_neg q]
    obtain ⟨M3, d1, d2, d3, d4⟩ := rt_word0 (y := 257) c1
    rw [d1, zz_bd_some]
    obtain ⟨r4, M4, g1, g2, g3, g4⟩ := rt_number0 (hi := 3) d3
    rw [g1, zz_bd_some, g3, if_pos (show (0 : Int32) = 0 from rfl)]
    exact ⟨M4, rfl, ((s2.tr d2).tr g2).rs, g3, by rw [g4, d4]; exact c2⟩
theorem rt_let {T : ms_T} {M : zz_M} {p k : Nat} {hi : Int32} {S : ms_S} (hk : k = 1 ∨ k = 2) (hok : ms_okT T) (hp : p ≤ T.1) (hT : ms_TM M T) (hD : t_D M T p) (hg : zz_i M 129 12 = 1) (hS : ms_SM M 130 S) (hokS : ms_okS S) :
    ∃ M' : zz_M, f_X9_wantLet 129 (nI k) hi M = some ((), M') ∧ it_D T M M' (it_let T (t_2 T p) k hi S) := by
  have h2 := t_2_b hp
  have hn := hokS.2.2.1
  obtain ⟨M1, a1, a2, a3⟩ := e_X9_advance hok h2.2.1 hD.2.2.1 hT
  obtain ⟨r, M2, b1, b2, b3, b4⟩ := rt_number (hi := hi) hok h2.2.1 (hT.tr a3) a2 (by rw [a3.g, hg])
  have s2 := a3.ts.tr b2
  unfold f_X9_wantLet it_let
  rw [a1, zz_bd_some, b1, zz_bd_some]
  by_cases q : it_num T (t_2 T p) hi = true
  · obtain ⟨c1, c2, c3⟩ := b3 q
    have hS2 := hS.ts hn s2
    have mS : mr_same (fun j => 1 ≤ j ∧ j < 20) M2 (zz_si M2 130 k (t_3 T (t_2 T p))) := mr_same.si (by omega)
    rw [if_pos q, c1, if_neg (show ¬ (1 : Int32) = 0 by decide), if_pos (me_in (show k < 440 by omega) (by decide)), me_n (show k < 2 ^ 31 by omega), me_wr, c3]
    refine ⟨_, rfl, s2.rs.tr (rs_same.mr mS), ?_, c2.row mS.1, hS2.vats (hS2.2.1.u _) mS⟩
    rw [mS.ot (by decide)]
    exact c1
  · obtain ⟨c1, c2⟩ := b4 q
    rw [if_neg q, c1, if_pos (show (0 : Int32) = 0 from rfl)]
    exact ⟨M2, rfl, s2.rs, c1, c2⟩
theorem rt_kindHere {T : ms_T} {M : zz_M} {p : Nat} (hok : ms_okT T) (hp : p ≤ T.1) (hD : t_D M T p) : f_X9_kindHere 129 M = some (it_kn T p, M) := by
  have n1 : ¬ (1 : Int32) = 0 := by decide
  have n0 : (0 : Int32) = 0 := rfl
  unfold f_X9_kindHere it_kn
  rw [e_X9_isWord hp hok.1 hD t_w0, zz_bd_some]
  by_cases q0 : t_iw T p 0 = true
  · rw [if_pos q0, if_pos q0, if_neg n1]
  rw [if_neg q0, if_neg q0, if_pos n0, e_X9_isWord hp hok.1 hD t_w1, zz_bd_some]
  by_cases q1 : t_iw T p 1 = true
  · rw [if_pos q1, if_pos q1, if_neg n1]
  rw [if_neg q1, if_neg q1, if_pos n0, e_X9_isWord hp hok.1 hD t_w2, zz_bd_some]
  by_cases q2 : t_iw T p 2 = true
  · rw [if_pos q2, if_pos q2, if_neg n1]
  rw [if_neg q2, if_neg q2, if_pos n0, e_X9_isWord hp hok.1 hD t_w3, zz_bd_some]
  by_cases q3 : t_iw T p 3 = true
  · rw [if_pos q3, if_pos q3, if_neg n1]
  rw [if_neg q3, if_neg q3, if_pos n0, e_X9_isWord hp hok.1 hD t_w4, zz_bd_some]
  by_cases q4 : t_iw T p 4 = true
  · rw [if_pos q4, if_pos q4, if_neg n1]
  rw [if_neg q4, if_neg q4, if_pos n0, e_X9_isWord hp hok.1 hD t_w5, zz_bd_some]
  by_cases q5 : t_iw T p 5 = true
  · rw [if_pos q5, if_pos q5, if_neg n1]
  rw [if_neg q5, if_neg q5, if_pos n0]
theorem rt_item {T : ms_T} {M : zz_M} {p : Nat} {S : ms_S} (hok : ms_okT T) (hp : p ≤ T.1) (hT : ms_TM M T) (hD : t_D M T p) (hg : zz_i M 129 12 = 1) (hS : ms_SM M 130 S) (hokS : ms_okS S) :
    ∃ M' : zz_M, f_X9_wantItem 129 M = some ((), M') ∧ it_D T M M' (it_item T p S) := by
  have n1 : ¬ (1 : Int32) = 0 := by decide
  have n0 : (0 : Int32) = 0 := rfl
  have h2 := t_2_b hp
  have hn := hokS.2.2.1
  have hs12 : ∀ v : Int32, ms_SM (zz_si M 129 12 v) 130 S := fun v => hS.ts hn ts_same.s12
  unfold f_X9_wantItem it_item
  rw [rt_kindHere hok hp hD, zz_bd_some]
  by_cases qk : 0 ≤ it_kn T p
  · rw [if_neg (Int32.not_lt.mpr qk), if_pos qk, rt_kindHere hok hp hD, zz_bd_some]
    unfold f_X9_wantCandle b_X9_wantCandle_17
    rw [if_pos (show zz_in (0 : Int32) 440 = true from rfl), show zz_n (0 : Int32) = 0 from rfl, hS.1]
    by_cases q10 : S.2.1 < 10
    · rw [if_neg (me_ge (y := 10) S.2.1 10 rfl q10 (by decide)), if_pos q10, if_pos me_bit1, me_wr, me_hit rfl rfl, if_neg n1]
      obtain ⟨M1, a1, a2, a3⟩ := e_X9_advance hok h2.2.1 (M := zz_si M 129 12 1) (by rw [me_ine (by omega)]; exact hD.2.2.1) (hT.ts ts_same.s12)
      have s1 := ts_same.s12.tr a3.ts
      obtain ⟨M2, b1, b2, b3⟩ := e_X9_add (it_kn T p) (hS.ts hn s1) q10 129
      rw [a1, zz_bd_some, b1, zz_bd_some, zz_bd_some]
      refine ⟨M2, rfl, s1.rs.tr (rs_same.mr b3), ?_, a2.row b3.1, b2⟩
      rw [b3.ot (by decide), a3.g, me_hit rfl rfl]
    · rw [if_pos (show (10 : Int32) ≤ nI S.2.1 from nI_le (a := 10) (b := S.2.1) (by omega) (by omega)), if_neg q10, if_pos me_bit0, me_wr, me_hit rfl rfl, if_pos n0, zz_bd_some]
      exact ⟨_, rfl, ts_same.s12.rs, me_hit rfl rfl, by rw [me_ine (by omega)]; exact hD.2.1⟩
  rw [if_pos (Int32.not_le.mp qk), if_neg qk, e_X9_isWord hp hok.1 hD t_w6, zz_bd_some]
  by_cases q6 : t_iw T p 6 = true
  · rw [if_pos q6, if_neg n1, if_pos q6]
    obtain ⟨M1, a1, a2⟩ := rt_vat hok hp hT hD hg hS hokS
    rw [a1, zz_bd_some]
    exact ⟨M1, rfl, a2⟩
  rw [if_neg q6, if_pos n0, if_neg q6, e_X9_isWord hp hok.1 hD t_w7, zz_bd_some]
  by_cases q7 : t_iw T p 7 = true
  · rw [if_pos q7, if_neg n1, if_pos q7]
    obtain ⟨M1, a1, a2⟩ := rt_dip hok hp hT hD hg hS hokS
    rw [a1, zz_bd_some]
    exact ⟨M1, rfl, a2⟩
  rw [if_neg q7, if_pos n0, if_neg q7, e_X9_isWord hp hok.1 hD t_w8, zz_bd_some]
  by_cases q8 : t_iw T p 8 = true
  · rw [if_pos q8, if_neg n1, if_pos q8]
    obtain ⟨M1, a1, a2⟩ := rt_let (k := 1) (hi := 9999) (Or.inl rfl) hok hp hT hD hg hS hokS
    have a1 : f_X9_wantLet 129 1 9999 M = some ((), M1) := a1
    rw [a1, zz_bd_some]
    exact ⟨M1, rfl, a2⟩
  rw [if_neg q8, if_pos n0, if_neg q8, e_X9_isWord hp hok.1 hD t_w9, zz_bd_some]
  by_cases q9 : t_iw T p 9 = true
  · rw [if_pos q9, if_neg n1, if_pos q9]
    obtain ⟨M1, a1, a2⟩ := rt_let (k := 2) (hi := 9) (Or.inr rfl) hok hp hT hD hg hS hokS
    have a1 : f_X9_wantLet 129 2 9 M = some ((), M1) := a1
    rw [a1, zz_bd_some]
    exact ⟨M1, rfl, a2⟩
  rw [if_neg q9, if_pos n0, if_neg q9, me_wr]
  exact ⟨_, rfl, ts_same.s12.rs, me_hit rfl rfl, by rw [me_ine (by omega)]; exact hD.2.1⟩
