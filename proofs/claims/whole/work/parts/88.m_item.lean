/-! Items: what they come to; the class's. -/
def it_num (T : ms_T) (p : Nat) (hi : Int32) : Bool := decide (t_0 T p = 2) && decide (t_3 T p ≤ hi)
def it_be (T : ms_T) (p i j : Nat) (x y was : Int32) : Nat × Int32 := if t_iw T p i = true then (t_2 T p, x) else if t_iw T p j = true then (t_2 T p, y) else (p, was)
def it_may (T : ms_T) (p i : Nat) (hi was : Int32) : Sum Nat (Nat × Int32) := if t_iw T p i = true then (if it_num T (t_2 T p) hi = true then .inr (t_2 T (t_2 T p), t_3 T (t_2 T p)) else .inl (t_1 T (t_2 T p))) else .inr (p, was)
def it_V (V : Nat → Int32) (v : Nat) (a b c d : Int32) : Nat → Int32 := ms_u (ms_u (ms_u (ms_u V (4 + 4 * v + 0) a) (4 + 4 * v + 1) b) (4 + 4 * v + 2) c) (4 + 4 * v + 3) d
/-- behind the number of a vat -/
def it_vat2 (T : ms_T) (v p1 : Nat) (S : ms_S) : Sum Nat (Nat × ms_S) :=
  Sum.elim (fun f => .inl f) (fun w => Sum.elim (fun f => .inl f) (fun h => .inr ((it_be T h.1 14 15 1 0 (S.1 (4 + 4 * v + 3))).1, (it_V S.1 v (it_be T p1 10 11 0 1 (S.1 (4 + 4 * v + 0))).2 w.2 h.2 (it_be T h.1 14 15 1 0 (S.1 (4 + 4 * v + 3))).2, S.2))) (it_may T w.1 13 99999 (S.1 (4 + 4 * v + 2)))) (it_may T (it_be T p1 10 11 0 1 (S.1 (4 + 4 * v + 0))).1 12 99 (S.1 (4 + 4 * v + 1)))
def it_vat (T : ms_T) (q : Nat) (S : ms_S) : Sum Nat (Nat × ms_S) := if it_num T q 3 = true then it_vat2 T (zz_n (t_3 T q)) (t_2 T q) S else .inl (t_1 T q)
def it_dp (S : ms_S) (c v : Nat) : ms_S := ((ms_dv (S.2.2 c).1 ((S.2.2 c).2, S.1) v).2, S.2.1, ms_uc S.2.2 c ((S.2.2 c).1, (ms_dv (S.2.2 c).1 ((S.2.2 c).2, S.1) v).1))
def it_dip (T : ms_T) (q : Nat) (S : ms_S) : Sum Nat (Nat × ms_S) :=
  if it_num T q (nI S.2.1 - 1) = true then (if t_iw T (t_2 T q) 16 = true then (if it_num T (t_2 T (t_2 T q)) 3 = true then .inr (t_2 T (t_2 T (t_2 T q)), it_dp S (zz_n (t_3 T q)) (zz_n (t_3 T (t_2 T (t_2 T q))))) else .inl (t_1 T (t_2 T (t_2 T q)))) else .inl (t_1 T (t_2 T q))) else .inl (t_1 T q)
def it_let (T : ms_T) (q k : Nat) (hi : Int32) (S : ms_S) : Sum Nat (Nat × ms_S) := if it_num T q hi = true then .inr (t_2 T q, (ms_u S.1 k (t_3 T q), S.2)) else .inl (t_1 T q)
def it_kn (T : ms_T) (p : Nat) : Int32 := if t_iw T p 0 = true then 0 else if t_iw T p 1 = true then 1 else if t_iw T p 2 = true then 2 else if t_iw T p 3 = true then 3 else if t_iw T p 4 = true then 4 else if t_iw T p 5 = true then 5 else -1
def it_item (T : ms_T) (p : Nat) (S : ms_S) : Sum Nat (Nat × ms_S) :=
  if 0 ≤ it_kn T p then (if S.2.1 < 10 then .inr (t_2 T p, ms_add S (it_kn T p)) else .inl (t_1 T p))
  else if t_iw T p 6 = true then it_vat T (t_2 T p) S
  else if t_iw T p 7 = true then it_dip T (t_2 T p) S
  else if t_iw T p 8 = true then it_let T (t_2 T p) 1 9999 S
  else if t_iw T p 9 = true then it_let T (t_2 T p) 2 9 S
  else .inl (t_1 T p)
theorem it_num_v {T : ms_T} {p N : Nat} {hi : Int32} (hN : hi = nI N) (hN2 : N < 2 ^ 31) (h : it_num T p hi = true) : t_0 T p = 2 ∧ ∃ v, v ≤ N ∧ t_3 T p = nI v := by
  unfold it_num at h
  rw [Bool.and_eq_true, decide_eq_true_eq, decide_eq_true_eq] at h
  refine ⟨h.1, ?_⟩
  obtain ⟨v, hv, e⟩ := nI_of2 (M := hi) (n := N) (x := t_3 T p) (by rw [hN]; exact nI_toInt hN2) (by rw [Int32.not_lt]; exact (t_3_ok T p).1) h.2
  exact ⟨v, hv, e⟩
theorem it_num_c {T : ms_T} {p n : Nat} (hn : n ≤ 10) (h : it_num T p (nI n - 1) = true) : t_0 T p = 2 ∧ ∃ c, c < n ∧ t_3 T p = nI c := by
  rcases n with _ | n
  · exfalso
    unfold it_num at h
    rw [Bool.and_eq_true, decide_eq_true_eq, decide_eq_true_eq] at h
    have h1 := (t_3_ok T p).1
    have h2 := Int32.le_trans h1 h.2
    exact absurd h2 (by decide)
  · rw [nI_pred] at h
    obtain ⟨h1, v, hv, e⟩ := it_num_v (N := n) rfl (by omega) h
    exact ⟨h1, v, by omega, e⟩
/-- the class behind a part of an item -/
def it_C (T : ms_T) (M M' : zz_M) (r : Int32) (o : Sum Nat (Nat × ms_S)) : Prop := me_same (fun q => 90 ≤ q ∧ q < 119) M M' ∧ Sum.elim (fun f => r = 0 ∧ zz_i M' 90 3 = nI f) (fun x => r = 1 ∧ t_C M' T x.1 ∧ ms_SC M' (90 + 1) x.2) o
theorem it_C.tr {T : ms_T} {M M1 M' : zz_M} {r : Int32} {o : Sum Nat (Nat × ms_S)} (h1 : me_same (fun q => 90 ≤ q ∧ q < 119) M M1) (h : it_C T M1 M' r o) : it_C T M M' r o := ⟨h1.tr h.1, h.2⟩
theorem me_90 {M M' : zz_M} (h : me_same (fun q => q = 90) M M') : me_same (fun q => 90 ≤ q ∧ q < 119) M M' := h.wk (fun q hq => by omega)
theorem ms_TC.x {M M' : zz_M} {T : ms_T} (h : ms_TC M T) (e : me_same (fun q => 90 ≤ q ∧ q < 119) M M') : ms_TC M' T := h.fr (e.at (by omega)) (e.at (by omega))
theorem ms_SC.n {M M' : zz_M} {S : ms_S} (h : ms_SC M (90 + 1) S) (e : me_same (fun q => q = 90) M M') : ms_SC M' (90 + 1) S := h.fr (fun q _ _ => e.at (by omega))
theorem t_len (i : Nat) (h : i < 17) : zz_len.getD i 0 ≤ 12 := by
  rcases (show i = 0 ∨ i = 1 ∨ i = 2 ∨ i = 3 ∨ i = 4 ∨ i = 5 ∨ i = 6 ∨ i = 7 ∨ i = 8 ∨ i = 9 ∨ i = 10 ∨ i = 11 ∨ i = 12 ∨ i = 13 ∨ i = 14 ∨ i = 15 ∨ i = 16 by omega) with rfl | rfl | rfl | rfl | rfl | rfl | rfl | rfl | rfl | rfl | rfl | rfl | rfl | rfl | rfl | rfl | rfl <;> decide
theorem e_X5_skips {T : ms_T} {M : zz_M} {p : Nat} (i : Nat) (hi : i < 17) (hn : T.1 ≤ 120) (hp : p ≤ T.1) (hT : ms_TC M T) (hC : t_C M T p) :
    ∃ M' : zz_M, f_X5_skips 90 i M = some (if t_iw T p i = true then 1 else 0, M') ∧ t_C M' T (if t_iw T p i = true then t_2 T p else p) ∧ me_same (fun q => q = 90) M M' := by
  unfold f_X5_skips
  rw [e_X5_isWord hn hp hT hC (t_len i hi), zz_bd_some]
  by_cases q : t_iw T p i = true
  · rw [if_pos q, if_pos q, if_neg (show ¬ (1 : Int32) = 0 by decide)]
    obtain ⟨M', a1, a2, a3⟩ := e_X5_next hn (t_2_b hp).2.1 hC.2.2.1 hT
    rw [a1, zz_bd_some]
    exact ⟨M', rfl, a2, a3⟩
  · rw [if_neg q, if_neg q, if_pos (show (0 : Int32) = 0 from rfl)]
    exact ⟨M, rfl, hC, me_same.rf⟩
theorem e_X5_isNumber {T : ms_T} {M : zz_M} {p : Nat} (hC : t_C M T p) (hi : Int32) : f_X5_isNumber 90 hi M = some (if it_num T p hi = true then 1 else 0, M) := by
  have h0 := t_0_le T p
  unfold f_X5_isNumber it_num
  rw [hC.1]
  by_cases q : t_0 T p = 2
  · rw [if_pos (show nI (t_0 T p) = 2 by rw [q]; rfl), hC.2.2.2 q, decide_eq_true q, Bool.true_and]
    by_cases q2 : hi < t_3 T p
    · rw [if_pos q2, decide_eq_false (Int32.not_le.mpr q2), if_neg (show ¬ false = true by decide)]
    · rw [if_neg q2, decide_eq_true (Int32.not_lt.mp q2), if_pos rfl]
  · rw [if_neg (show ¬ nI (t_0 T p) = 2 from fun z => q ((nI_eq (a := t_0 T p) (b := 2) (by omega) (by omega)).mp z)), decide_eq_false q, Bool.false_and, if_neg (show ¬ false = true by decide)]
theorem e_X5_kindNamed {T : ms_T} {M : zz_M} {p : Nat} (hn : T.1 ≤ 120) (hp : p ≤ T.1) (hT : ms_TC M T) (hC : t_C M T p) : f_X5_kindNamed 90 M = some (it_kn T p, M) := by
  have e := fun i hi => e_X5_isWord (i := i) hn hp hT hC (t_len i hi)
  have n1 : ¬ (1 : Int32) = 0 := by decide
  have n0 : (0 : Int32) = 0 := rfl
  unfold f_X5_kindNamed it_kn
  rw [e 0 (by omega), zz_bd_some]
  by_cases q0 : t_iw T p 0 = true
  · rw [if_pos q0, if_pos q0, if_neg n1]
  rw [if_neg q0, if_neg q0, if_pos n0, e 1 (by omega), zz_bd_some]
  by_cases q1 : t_iw T p 1 = true
  · rw [if_pos q1, if_pos q1, if_neg n1]
  rw [if_neg q1, if_neg q1, if_pos n0, e 2 (by omega), zz_bd_some]
  by_cases q2 : t_iw T p 2 = true
  · rw [if_pos q2, if_pos q2, if_neg n1]
  rw [if_neg q2, if_neg q2, if_pos n0, e 3 (by omega), zz_bd_some]
  by_cases q3 : t_iw T p 3 = true
  · rw [if_pos q3, if_pos q3, if_neg n1]
  rw [if_neg q3, if_neg q3, if_pos n0, e 4 (by omega), zz_bd_some]
  by_cases q4 : t_iw T p 4 = true
  · rw [if_pos q4, if_pos q4, if_neg n1]
  rw [if_neg q4, if_neg q4, if_pos n0, e 5 (by omega), zz_bd_some]
  by_cases q5 : t_iw T p 5 = true
  · rw [if_pos q5, if_pos q5, if_neg n1]
  rw [if_neg q5, if_neg q5, if_pos n0]
theorem ms_SC.vset {M : zz_M} {S : ms_S} {v k : Nat} {x : Int32} (h : ms_SC M (90 + 1) S) (hv : v < 4) (hk : k < 4) : ms_SC (zz_si M (90 + 1 + 1 + 2 + v) k x) (90 + 1) (ms_u S.1 (4 + 4 * v + k) x, S.2) := h.vats (h.1.u x hv hk) (me_same.si (by omega))
theorem ms_u_id (V : Nat → Int32) (j q : Nat) : ms_u V j (V j) q = V q := by
  by_cases e : q = j
  · rw [ms_u_hit e, e]
  · rw [ms_u_ne e]
theorem ms_SC.vid {M : zz_M} {S : ms_S} {j : Nat} (h : ms_SC M (90 + 1) S) : ms_SC M (90 + 1) (ms_u S.1 j (S.1 j), S.2) := ⟨h.1.eqv (fun q _ => ms_u_id _ _ _), h.2⟩
theorem t_C.v {M : zz_M} {T : ms_T} {p a k : Nat} {x : Int32} (h : t_C M T p) (ha : 90 < a) : t_C (zz_si M a k x) T p := h.fr (zz_i_si_ne (by omega))
/-- 'perhaps fire or cold' at the end -/
theorem e_X5_vat101 {T : ms_T} {M : zz_M} {p v : Nat} {S : ms_S} (hv : v < 4) (hn : T.1 ≤ 120) (hp : p ≤ T.1) (hT : ms_TC M T) (hC : t_C M T p) (hS : ms_SC M (90 + 1) S) :
    ∃ (r : Int32) (M' : zz_M), b_X5_vatItem_101 90 (90 + 1 + 1 + 2 + v) M = some (r, M') ∧ it_C T M M' r (.inr ((it_be T p 14 15 1 0 (S.1 (4 + 4 * v + 3))).1, (ms_u S.1 (4 + 4 * v + 3) (it_be T p 14 15 1 0 (S.1 (4 + 4 * v + 3))).2, S.2))) := by
  unfold b_X5_vatItem_101 it_be
  obtain ⟨M1, a1, a2, a3⟩ := e_X5_skips 14 (by omega) hn hp hT hC
  rw [a1, zz_bd_some]
  by_cases q : t_iw T p 14 = true
  · rw [if_pos q] at a2
    rw [if_pos q, if_pos q, if_neg (show ¬ (1 : Int32) = 0 by decide), me_wr]
    exact ⟨1, _, rfl, (me_90 a3).tr (me_same.si (by omega)), rfl, a2.v (by omega), (hS.n a3).vset hv (by omega)⟩
  · rw [if_neg q] at a2
    rw [if_neg q, if_neg q, if_pos (show (0 : Int32) = 0 from rfl)]
    obtain ⟨M2, b1, b2, b3⟩ := e_X5_skips 15 (by omega) hn hp (hT.x (me_90 a3)) a2
    rw [b1, zz_bd_some]
    by_cases q2 : t_iw T p 15 = true
    · rw [if_pos q2] at b2
      rw [if_pos q2, if_pos q2, if_neg (show ¬ (1 : Int32) = 0 by decide), me_wr]
      exact ⟨1, _, rfl, ((me_90 a3).tr (me_90 b3)).tr (me_same.si (by omega)), rfl, b2.v (by omega), ((hS.n a3).n b3).vset hv (by omega)⟩
    · rw [if_neg q2] at b2
      rw [if_neg q2, if_neg q2, if_pos (show (0 : Int32) = 0 from rfl)]
      exact ⟨1, M2, rfl, (me_90 a3).tr (me_90 b3), rfl, b2, ((hS.n a3).n b3).vid⟩
theorem e_X5_setsPart {T : ms_T} {M : zz_M} {p v k N : Nat} {S : ms_S} (hv : v < 4) (hk : k = 1 ∨ k = 2) (hN : zz_mov.getD k 0 = nI N) (hN2 : N < 2 ^ 31) (hn : T.1 ≤ 120) (hp : p ≤ T.1) (hT : ms_TC M T) (hC : t_C M T p) (hS : ms_SC M (90 + 1) S) :
    ∃ (r : Int32) (M' : zz_M), f_X5_setsPart 90 (90 + 1 + 1 + 2 + v) (nI k) M = some (r, M') ∧ it_C T M M' r (if it_num T p (nI N) = true then .inr (t_2 T p, (ms_u S.1 (4 + 4 * v + k) (t_3 T p), S.2)) else .inl (t_1 T p)) := by
  unfold f_X5_setsPart
  rw [if_pos (me_in (show k < 4 by omega) (by decide)), me_n (show k < 2 ^ 31 by omega), hN, e_X5_isNumber hC, zz_bd_some]
  by_cases q : it_num T p (nI N) = true
  · obtain ⟨q0, w, hw, ew⟩ := it_num_v rfl hN2 q
    rw [if_pos q, if_pos q, if_neg (show ¬ (1 : Int32) = 0 by decide), hC.2.2.2 q0, e_setPart (show k < 4 by omega) (fun z => absurd z (by omega)), zz_bd_some]
    have c1 : t_C (zz_si M (90 + 1 + 1 + 2 + v) k (t_3 T p)) T p := hC.v (by omega)
    have sS : me_same (fun q => 90 ≤ q ∧ q < 119) M (zz_si M (90 + 1 + 1 + 2 + v) k (t_3 T p)) := me_same.si (by omega)
    obtain ⟨M1, a1, a2, a3⟩ := e_X5_next hn (t_2_b hp).2.1 c1.2.2.1 (hT.x sS)
    rw [a1, zz_bd_some]
    exact ⟨1, M1, rfl, sS.tr (me_90 a3), rfl, a2, (hS.vset hv (by omega)).n a3⟩
  · rw [if_neg q, if_neg q, if_pos (show (0 : Int32) = 0 from rfl)]
    exact ⟨0, M, rfl, me_same.rf, rfl, hC.2.1⟩
theorem it_be_le {T : ms_T} {p i j : Nat} {x y w : Int32} (hp : p ≤ T.1) : p ≤ (it_be T p i j x y w).1 ∧ (it_be T p i j x y w).1 ≤ T.1 := by
  have h1 := t_1_b hp
  have h2 := t_2_b hp
  unfold it_be
  split
  · exact ⟨by simp only; omega, by simp only; omega⟩
  · split
    · exact ⟨by simp only; omega, by simp only; omega⟩
    · exact ⟨Nat.le_refl _, hp⟩
theorem it_may_le {T : ms_T} {p i : Nat} {hi w : Int32} {x : Nat × Int32} (hp : p ≤ T.1) (h : it_may T p i hi w = .inr x) : p ≤ x.1 ∧ x.1 ≤ T.1 := by
  have h1 := t_1_b hp
  have h2 := t_2_b hp
  have h3 := t_1_b h2.2.1
  have h4 := t_2_b h2.2.1
  unfold it_may at h
  split at h
  · split at h
    · injection h with h
      rw [← h]
      simp only
      omega
    · exact absurd h (by simp)
  · injection h with h
    rw [← h]
    exact ⟨Nat.le_refl _, hp⟩
theorem e_X5_vat81 {T : ms_T} {M : zz_M} {p v : Nat} {S : ms_S} (hv : v < 4) (hn : T.1 ≤ 120) (hp : p ≤ T.1) (hT : ms_TC M T) (hC : t_C M T p) (hS : ms_SC M (90 + 1) S) :
    ∃ (r : Int32) (M' : zz_M), b_X5_vatItem_81 90 (90 + 1 + 1 + 2 + v) M = some (r, M') ∧ it_C T M M' r (Sum.elim (fun f => .inl f) (fun h => .inr ((it_be T h.1 14 15 1 0 (S.1 (4 + 4 * v + 3))).1, (ms_u (ms_u S.1 (4 + 4 * v + 2) h.2) (4 + 4 * v + 3) (it_be T h.1 14 15 1 0 (S.1 (4 + 4 * v + 3))).2, S.2))) (it_may T p 13 99999 (S.1 (4 + 4 * v + 2)))) := by
  unfold b_X5_vatItem_81 it_may
  have e3 : ∀ x : Int32, ms_u S.1 (4 + 4 * v + 2) x (4 + 4 * v + 3) = S.1 (4 + 4 * v + 3) := fun x => ms_u_ne (by omega)
  have h2 := t_2_b hp
  obtain ⟨M1, a1, a2, a3⟩ := e_X5_skips 13 (by omega) hn hp hT hC
  have hT1 := hT.x (me_90 a3)
  rw [a1, zz_bd_some]
  by_cases q : t_iw T p 13 = true
  · rw [if_pos q] at a2
    rw [if_pos q, if_pos q, if_neg (show ¬ (1 : Int32) = 0 by decide)]
    obtain ⟨r, M2, b1, b2⟩ := e_X5_setsPart (k := 2) (N := 99999) hv (Or.inr rfl) rfl (by omega) hn h2.2.1 hT1 a2 (hS.n a3)
    have b1 : f_X5_setsPart 90 (90 + 1 + 1 + 2 + v) 2 M1 = some (r, M2) := b1
    rw [b1, zz_bd_some]
    by_cases q2 : it_num T (t_2 T p) 99999 = true
    · rw [if_pos q2]
      have q2' : it_num T (t_2 T p) (nI 99999) = true := q2
      rw [if_pos q2'] at b2
      obtain ⟨c1, c2, c3, c4⟩ := b2
      rw [if_neg (by rw [c2]; decide)]
      obtain ⟨r', M3, d1, d2⟩ := e_X5_vat101 hv hn (t_2_b h2.2.1).2.1 (hT1.x c1) c3 c4
      simp only [e3] at d2
      exact ⟨r', M3, d1, it_C.tr ((me_90 a3).tr c1) d2⟩
    · rw [if_neg q2]
      have q2' : ¬ it_num T (t_2 T p) (nI 99999) = true := q2
      rw [if_neg q2'] at b2
      obtain ⟨c1, c2, c3⟩ := b2
      rw [if_pos c2]
      exact ⟨0, M2, rfl, (me_90 a3).tr c1, rfl, c3⟩
  · rw [if_neg q] at a2
    rw [if_neg q, if_neg q, if_pos (show (0 : Int32) = 0 from rfl)]
    obtain ⟨r', M3, d1, d2⟩ := e_X5_vat101 hv hn hp hT1 a2 ((hS.n a3).vid (j := 4 + 4 * v + 2))
    simp only [e3] at d2
    exact ⟨r', M3, d1, it_C.tr (me_90 a3) d2⟩
theorem e_X5_vat61 {T : ms_T} {M : zz_M} {p v : Nat} {S : ms_S} (hv : v < 4) (hn : T.1 ≤ 120) (hp : p ≤ T.1) (hT : ms_TC M T) (hC : t_C M T p) (hS : ms_SC M (90 + 1) S) :
    ∃ (r : Int32) (M' : zz_M), b_X5_vatItem_61 90 (90 + 1 + 1 + 2 + v) M = some (r, M') ∧ it_C T M M' r (Sum.elim (fun f => .inl f) (fun w => Sum.elim (fun f => .inl f) (fun h => .inr ((it_be T h.1 14 15 1 0 (S.1 (4 + 4 * v + 3))).1, (ms_u (ms_u (ms_u S.1 (4 + 4 * v + 1) w.2) (4 + 4 * v + 2) h.2) (4 + 4 * v + 3) (it_be T h.1 14 15 1 0 (S.1 (4 + 4 * v + 3))).2, S.2))) (it_may T w.1 13 99999 (S.1 (4 + 4 * v + 2)))) (it_may T p 12 99 (S.1 (4 + 4 * v + 1)))) := by
  unfold b_X5_vatItem_61
  have e2 : ∀ x : Int32, ms_u S.1 (4 + 4 * v + 1) x (4 + 4 * v + 2) = S.1 (4 + 4 * v + 2) := fun x => ms_u_ne (by omega)
  have e3 : ∀ x : Int32, ms_u S.1 (4 + 4 * v + 1) x (4 + 4 * v + 3) = S.1 (4 + 4 * v + 3) := fun x => ms_u_ne (by omega)
  have h2 := t_2_b hp
  obtain ⟨M1, a1, a2, a3⟩ := e_X5_skips 12 (by omega) hn hp hT hC
  have hT1 := hT.x (me_90 a3)
  rw [a1, zz_bd_some, it_may]
  by_cases q : t_iw T p 12 = true
  · rw [if_pos q] at a2
    rw [if_pos q, if_pos q, if_neg (show ¬ (1 : Int32) = 0 by decide)]
    obtain ⟨r, M2, b1, b2⟩ := e_X5_setsPart (k := 1) (N := 99) hv (Or.inl rfl) rfl (by omega) hn h2.2.1 hT1 a2 (hS.n a3)
    have b1 : f_X5_setsPart 90 (90 + 1 + 1 + 2 + v) 1 M1 = some (r, M2) := b1
    rw [b1, zz_bd_some]
    by_cases q2 : it_num T (t_2 T p) 99 = true
    · rw [if_pos q2]
      have q2' : it_num T (t_2 T p) (nI 99) = true := q2
      rw [if_pos q2'] at b2
      obtain ⟨c1, c2, c3, c4⟩ := b2
      rw [if_neg (by rw [c2]; decide)]
      obtain ⟨r', M3, d1, d2⟩ := e_X5_vat81 hv hn (t_2_b h2.2.1).2.1 (hT1.x c1) c3 c4
      simp only [e2, e3] at d2
      exact ⟨r', M3, d1, it_C.tr ((me_90 a3).tr c1) d2⟩
    · rw [if_neg q2]
      have q2' : ¬ it_num T (t_2 T p) (nI 99) = true := q2
      rw [if_neg q2'] at b2
      obtain ⟨c1, c2, c3⟩ := b2
      rw [if_pos c2]
      exact ⟨0, M2, rfl, (me_90 a3).tr c1, rfl, c3⟩
  · rw [if_neg q] at a2
    rw [if_neg q, if_neg q, if_pos (show (0 : Int32) = 0 from rfl)]
    obtain ⟨r', M3, d1, d2⟩ := e_X5_vat81 hv hn hp hT1 a2 ((hS.n a3).vid (j := 4 + 4 * v + 1))
    simp only [e2, e3] at d2
    exact ⟨r', M3, d1, it_C.tr (me_90 a3) d2⟩
theorem e_X5_vatItem {T : ms_T} {M : zz_M} {p : Nat} {S : ms_S} (hn : T.1 ≤ 120) (hp : p ≤ T.1) (hT : ms_TC M T) (hC : t_C M T p) (hS : ms_SC M (90 + 1) S) :
    ∃ (r : Int32) (M' : zz_M), f_X5_vatItem 90 M = some (r, M') ∧ it_C T M M' r (it_vat T p S) := by
  have h2 := t_2_b hp
  unfold f_X5_vatItem it_vat
  rw [e_X5_isNumber hC, zz_bd_some]
  by_cases q : it_num T p 3 = true
  · obtain ⟨q0, v, hv, ev⟩ := it_num_v (N := 3) rfl (by omega) q
    rw [if_pos q, if_pos q, if_neg (show ¬ (1 : Int32) = 0 by decide), hC.2.2.2 q0, ev, if_pos (me_in (show v < 4 by omega) (by decide)), me_n (show v < 2 ^ 31 by omega), show 90 + 1 + 1 + 1 + 1 + v = 90 + 1 + 1 + 2 + v by omega]
    have hv4 : v < 4 := by omega
    obtain ⟨M1, a1, a2, a3⟩ := e_X5_next hn h2.2.1 hC.2.2.1 hT
    have hT1 := hT.x (me_90 a3)
    have hS1 := hS.n a3
    rw [a1, zz_bd_some]
    have e1 : ∀ x : Int32, ms_u S.1 (4 + 4 * v + 0) x (4 + 4 * v + 1) = S.1 (4 + 4 * v + 1) := fun x => ms_u_ne (by omega)
    have e2 : ∀ x : Int32, ms_u S.1 (4 + 4 * v + 0) x (4 + 4 * v + 2) = S.1 (4 + 4 * v + 2) := fun x => ms_u_ne (by omega)
    have e3 : ∀ x : Int32, ms_u S.1 (4 + 4 * v + 0) x (4 + 4 * v + 3) = S.1 (4 + 4 * v + 3) := fun x => ms_u_ne (by omega)
    unfold it_vat2 it_V
    have h3 := t_2_b h2.2.1
    obtain ⟨M2, b1, b2, b3⟩ := e_X5_skips 10 (by omega) hn h2.2.1 hT1 a2
    rw [b1, zz_bd_some]
    by_cases qt : t_iw T (t_2 T p) 10 = true
    · rw [if_pos qt] at b2
      rw [if_pos qt, if_neg (show ¬ (1 : Int32) = 0 by decide), me_wr]
      have eb : it_be T (t_2 T p) 10 11 0 1 (S.1 (4 + 4 * v + 0)) = (t_2 T (t_2 T p), 0) := by rw [it_be, if_pos qt]
      have sS : me_same (fun q => 90 ≤ q ∧ q < 119) M (zz_si M2 (90 + 1 + 1 + 2 + v) 0 0) := ((me_90 a3).tr (me_90 b3)).tr (me_same.si (by omega))
      obtain ⟨r, M3, d1, d2⟩ := e_X5_vat61 hv4 hn h3.2.1 (hT.x sS) (b2.v (by omega)) ((hS1.n b3).vset (k := 0) (x := 0) hv4 (by omega))
      simp only [e1, e2, e3] at d2
      rw [eb]
      exact ⟨r, M3, d1, it_C.tr sS d2⟩
    · rw [if_neg qt] at b2
      rw [if_neg qt, if_pos (show (0 : Int32) = 0 from rfl)]
      obtain ⟨M3, c1, c2, c3⟩ := e_X5_skips 11 (by omega) hn h2.2.1 (hT1.x (me_90 b3)) b2
      rw [c1, zz_bd_some]
      by_cases qx : t_iw T (t_2 T p) 11 = true
      · rw [if_pos qx] at c2
        rw [if_pos qx, if_neg (show ¬ (1 : Int32) = 0 by decide), me_wr]
        have eb : it_be T (t_2 T p) 10 11 0 1 (S.1 (4 + 4 * v + 0)) = (t_2 T (t_2 T p), 1) := by rw [it_be, if_neg qt, if_pos qx]
        have sS : me_same (fun q => 90 ≤ q ∧ q < 119) M (zz_si M3 (90 + 1 + 1 + 2 + v) 0 1) := (((me_90 a3).tr (me_90 b3)).tr (me_90 c3)).tr (me_same.si (by omega))
        obtain ⟨r, M4, d1, d2⟩ := e_X5_vat61 hv4 hn h3.2.1 (hT.x sS) (c2.v (by omega)) (((hS1.n b3).n c3).vset (k := 0) (x := 1) hv4 (by omega))
        simp only [e1, e2, e3] at d2
        rw [eb]
        exact ⟨r, M4, d1, it_C.tr sS d2⟩
      · rw [if_neg qx] at c2
        rw [if_neg qx, if_pos (show (0 : Int32) = 0 from rfl)]
        have eb : it_be T (t_2 T p) 10 11 0 1 (S.1 (4 + 4 * v + 0)) = (t_2 T p, S.1 (4 + 4 * v + 0)) := by rw [it_be, if_neg qt, if_neg qx]
        have sS : me_same (fun q => 90 ≤ q ∧ q < 119) M M3 := ((me_90 a3).tr (me_90 b3)).tr (me_90 c3)
        obtain ⟨r, M4, d1, d2⟩ := e_X5_vat61 hv4 hn h2.2.1 (hT.x sS) c2 (((hS1.n b3).n c3).vid (j := 4 + 4 * v + 0))
        simp only [e1, e2, e3] at d2
        rw [eb]
        exact ⟨r, M4, d1, it_C.tr sS d2⟩
  · rw [if_neg q, if_neg q, if_pos (show (0 : Int32) = 0 from rfl)]
    exact ⟨0, M, rfl, me_same.rf, rfl, hC.2.1⟩
theorem e_X5_dipItem {T : ms_T} {M : zz_M} {p : Nat} {S : ms_S} (hn : T.1 ≤ 120) (hp : p ≤ T.1) (hT : ms_TC M T) (hC : t_C M T p) (hS : ms_SC M (90 + 1) S) (hok : ms_okS S) :
    ∃ (r : Int32) (M' : zz_M), f_X5_dipItem 90 M = some (r, M') ∧ it_C T M M' r (it_dip T p S) := by
  have h2 := t_2_b hp
  have h3 := t_2_b h2.2.1
  have h4 := t_2_b h3.2.1
  unfold f_X5_dipItem it_dip
  rw [hS.2.1, e_X5_isNumber hC, zz_bd_some]
  by_cases q : it_num T p (nI S.2.1 - 1) = true
  · obtain ⟨q0, c, hc, ec⟩ := it_num_c hok.2.2.1 q
    have hc10 : c < 10 := by have := hok.2.2.1; omega
    rw [if_pos q, if_pos q, if_neg (show ¬ (1 : Int32) = 0 by decide), hC.2.2.2 q0, ec, if_pos (me_in hc10 (by decide)), me_n (show c < 2 ^ 31 by omega)]
    obtain ⟨M1, a1, a2, a3⟩ := e_X5_next hn h2.2.1 hC.2.2.1 hT
    have hT1 := hT.x (me_90 a3)
    rw [a1, zz_bd_some]
    obtain ⟨M2, b1, b2, b3⟩ := e_X5_skips 16 (by omega) hn h2.2.1 hT1 a2
    have hT2 := hT1.x (me_90 b3)
    rw [b1, zz_bd_some]
    by_cases qi : t_iw T (t_2 T p) 16 = true
    · rw [if_pos qi] at b2
      rw [if_pos qi, if_pos qi, if_neg (show ¬ (1 : Int32) = 0 by decide), e_X5_isNumber b2, zz_bd_some]
      by_cases q3 : it_num T (t_2 T (t_2 T p)) 3 = true
      · obtain ⟨q30, v, hv, ev⟩ := it_num_v (N := 3) rfl (by omega) q3
        have hv4 : v < 4 := by omega
        rw [if_pos q3, if_pos q3, if_neg (show ¬ (1 : Int32) = 0 by decide), b2.2.2.2 q30, ev, if_pos (me_in hv4 (by decide)), me_n (show v < 2 ^ 31 by omega), show 90 + 1 + 1 + 1 + 1 + v = 90 + 1 + 1 + 2 + v by omega]
        have hS2 := (hS.n a3).n b3
        have hX : ms_okX ((S.2.2 c).2, S.1) := ⟨(hS2.2.2 c hc10).2.2.2.2.2, hok.1⟩
        obtain ⟨M3, c1, c2, c3, c4⟩ := e_X0_dv (r := 90 + 1 + 1) (X := ((S.2.2 c).2, S.1)) hv4 (hS2.2.2 c hc10) hS2.1 hX (by omega)
        rw [c1, zz_bd_some]
        have sS : me_same (fun q => 90 ≤ q ∧ q < 119) M2 M3 := c4.wk (fun q hq => by omega)
        have t3 : t_C M3 T (t_2 T (t_2 T p)) := b2.fr (c4.at (by omega))
        obtain ⟨M4, d1, d2, d3⟩ := e_X5_next hn h4.2.1 t3.2.2.1 (hT2.x sS)
        rw [d1, zz_bd_some]
        exact ⟨1, M4, rfl, (((me_90 a3).tr (me_90 b3)).tr sS).tr (me_90 d3), rfl, d2, (hS2.cand hc10 c3 c2 (c4.wk (fun q hq => by omega))).n d3⟩
      · rw [if_neg q3, if_neg q3, if_pos (show (0 : Int32) = 0 from rfl)]
        exact ⟨0, M2, rfl, (me_90 a3).tr (me_90 b3), rfl, b2.2.1⟩
    · rw [if_neg qi] at b2
      rw [if_neg qi, if_neg qi, if_pos (show (0 : Int32) = 0 from rfl)]
      exact ⟨0, M2, rfl, (me_90 a3).tr (me_90 b3), rfl, b2.2.1⟩
  · rw [if_neg q, if_neg q, if_pos (show (0 : Int32) = 0 from rfl)]
    exact ⟨0, M, rfl, me_same.rf, rfl, hC.2.1⟩
