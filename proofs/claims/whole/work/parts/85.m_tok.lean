/-! Tokens. -/
def t_sk (T : ms_T) : Nat → Nat → Nat
  | 0, p => p
  | d + 1, p => if T.2 p = 32 then t_sk T d (p + 1) else p
def t_le (T : ms_T) : Nat → Nat → Nat
  | 0, p => p
  | d + 1, p => if ms_in (T.2 p) 97 122 = 0 then p else t_le T d (p + 1)
def t_val (x b : Int32) : Int32 := if 10 * x + b - 48 < 100000 then 10 * x + b - 48 else 100000
def t_dg (T : ms_T) : Nat → Nat → Int32 → Nat × Int32
  | 0, p, x => (p, x)
  | d + 1, p, x => if ms_in (T.2 p) 48 57 = 0 then (p, x) else t_dg T d (p + 1) (t_val x (T.2 p))
def t_1 (T : ms_T) (p : Nat) : Nat := t_sk T (T.1 - p) p
def t_0 (T : ms_T) (p : Nat) : Nat := if t_1 T p < T.1 then (if ms_in (T.2 (t_1 T p)) 97 122 = 0 then (if ms_in (T.2 (t_1 T p)) 48 57 = 0 then (if T.2 (t_1 T p) = 59 then 3 else 4) else 2) else 1) else 0
def t_2 (T : ms_T) (p : Nat) : Nat := if t_1 T p < T.1 then (if ms_in (T.2 (t_1 T p)) 97 122 = 0 then (if ms_in (T.2 (t_1 T p)) 48 57 = 0 then t_1 T p + 1 else (t_dg T (T.1 - t_1 T p) (t_1 T p) 0).1) else t_le T (T.1 - t_1 T p) (t_1 T p)) else t_1 T p
def t_3 (T : ms_T) (p : Nat) : Int32 := (t_dg T (T.1 - t_1 T p) (t_1 T p) 0).2
theorem t_sk_b (T : ms_T) : ∀ (d p : Nat), p ≤ t_sk T d p ∧ t_sk T d p ≤ p + d
  | 0, p => ⟨Nat.le_refl _, Nat.le_refl _⟩
  | d + 1, p => by
    unfold t_sk
    have := t_sk_b T d (p + 1)
    split <;> omega
theorem t_le_b (T : ms_T) : ∀ (d p : Nat), p ≤ t_le T d p ∧ t_le T d p ≤ p + d
  | 0, p => ⟨Nat.le_refl _, Nat.le_refl _⟩
  | d + 1, p => by
    unfold t_le
    have := t_le_b T d (p + 1)
    split <;> omega
theorem t_dg_b (T : ms_T) : ∀ (d p : Nat) (x : Int32), p ≤ (t_dg T d p x).1 ∧ (t_dg T d p x).1 ≤ p + d
  | 0, p, _ => ⟨Nat.le_refl _, Nat.le_refl _⟩
  | d + 1, p, x => by
    unfold t_dg
    have := t_dg_b T d (p + 1) (t_val x (T.2 p))
    split
    · exact ⟨Nat.le_refl _, Nat.le_add_right _ _⟩
    · omega
theorem t_1_b {T : ms_T} {p : Nat} (hp : p ≤ T.1) : p ≤ t_1 T p ∧ t_1 T p ≤ T.1 := by
  have := t_sk_b T (T.1 - p) p
  unfold t_1
  omega
theorem t_2_b {T : ms_T} {p : Nat} (hp : p ≤ T.1) : t_1 T p ≤ t_2 T p ∧ t_2 T p ≤ T.1 ∧ (t_1 T p < T.1 → t_1 T p < t_2 T p) := by
  have h1 := t_1_b hp
  unfold t_2
  by_cases q : t_1 T p < T.1
  · rw [if_pos q]
    obtain ⟨d, hd⟩ : ∃ d, T.1 - t_1 T p = d + 1 := ⟨T.1 - t_1 T p - 1, by omega⟩
    by_cases ql : ms_in (T.2 (t_1 T p)) 97 122 = 0
    · rw [if_pos ql]
      by_cases qd : ms_in (T.2 (t_1 T p)) 48 57 = 0
      · rw [if_pos qd]; omega
      · rw [if_neg qd, hd, t_dg, if_neg qd]
        have := t_dg_b T d (t_1 T p + 1) (t_val 0 (T.2 (t_1 T p)))
        omega
    · rw [if_neg ql, hd, t_le, if_neg ql]
      have := t_le_b T d (t_1 T p + 1)
      omega
  · rw [if_neg q]; omega
theorem t_val_ok {x b : Int32} (hx : 0 ≤ x ∧ x ≤ 100000) (hb : ¬ ms_in b 48 57 = 0) : (0 ≤ t_val x b ∧ t_val x b ≤ 100000) ∧ t_val x b = (if x ≤ 9999 then 10 * x + b - 48 else 100000) := by
  have hb2 : 48 ≤ b ∧ b ≤ 57 := by
    rcases ms_in_cases b 48 57 with ⟨h, _⟩ | ⟨_, h⟩
    · exact absurd h hb
    · exact h
  unfold t_val
  constructor
  · split <;> grind
  · split <;> split <;> grind
theorem t_dg_ok (T : ms_T) : ∀ (d p : Nat) (x : Int32), 0 ≤ x ∧ x ≤ 100000 → 0 ≤ (t_dg T d p x).2 ∧ (t_dg T d p x).2 ≤ 100000
  | 0, _, _, h => h
  | d + 1, p, x, h => by
    unfold t_dg
    by_cases q : ms_in (T.2 p) 48 57 = 0
    · rw [if_pos q]; exact h
    · rw [if_neg q]; exact t_dg_ok T d (p + 1) _ (t_val_ok h q).1
theorem t_3_ok (T : ms_T) (p : Nat) : 0 ≤ t_3 T p ∧ t_3 T p ≤ 100000 := t_dg_ok T _ _ 0 ⟨by decide, by decide⟩
/-- the class's token -/
def t_C (M : zz_M) (T : ms_T) (p : Nat) : Prop := zz_i M 90 2 = nI (t_0 T p) ∧ zz_i M 90 3 = nI (t_1 T p) ∧ zz_i M 90 4 = nI (t_2 T p) ∧ (t_0 T p = 2 → zz_i M 90 5 = t_3 T p)
theorem t_C.fr {M M' : zz_M} {T : ms_T} {p : Nat} (h : t_C M T p) (e : zz_i M' 90 = zz_i M 90) : t_C M' T p := by
  unfold t_C
  rw [e]
  exact h
theorem ms_TC.fr {M M' : zz_M} {T : ms_T} (h : ms_TC M T) (e : zz_i M' 88 = zz_i M 88) (e2 : zz_i M' 89 = zz_i M 89) : ms_TC M' T := ⟨by rw [e]; exact h.1, fun j hj => by rw [e2]; exact h.2 j hj⟩
theorem e_X5_isLetter (x : Int32) (M : zz_M) : f_X5_isLetter x M = some (ms_in x 97 122, M) := by
  unfold f_X5_isLetter ms_in
  split
  · rfl
  · split <;> rfl
theorem e_X5_isDigit (x : Int32) (M : zz_M) : f_X5_isDigit x M = some (ms_in x 48 57, M) := by
  unfold f_X5_isDigit ms_in
  split
  · rfl
  · split <;> rfl
theorem e_X5_byteAt {M : zz_M} {T : ms_T} {p : Nat} (hT : ms_TC M T) (hn : T.1 ≤ 120) (hp : p < T.1) (a : Nat) : f_X5_byteAt a (nI p) M = some (T.2 p, M) := by
  unfold f_X5_byteAt
  rw [if_neg (show ¬ nI p < 0 from Int32.not_lt.mpr (nI_pos' (by omega))), if_neg (show ¬ (120 : Int32) ≤ nI p from me_ge (y := 120) p 120 rfl (by omega) (by decide)), if_pos (me_in (show p < 120 by omega) (by decide)), me_n (by omega), show 88 + 1 = 89 from rfl, hT.2 p hp]
theorem ms_TC.s90 {M : zz_M} {T : ms_T} {k : Nat} {x : Int32} (h : ms_TC M T) : ms_TC (zz_si M 90 k x) T := h.fr (by funext j; rw [me_ine (by omega)]) (by funext j; rw [me_ine (by omega)])
theorem e_X5_passWord {T : ms_T} (hn : T.1 ≤ 120) : ∀ (d k p : Nat) (M : zz_M), d < k → p + d = T.1 → zz_i M 90 4 = nI p → ms_TC M T →
    ∃ M' : zz_M, b_X5_passWord_0 k 90 M = some ((), M') ∧ zz_i M' 90 4 = nI (t_le T d p) ∧ (∀ j, j ≠ 4 → zz_i M' 90 j = zz_i M 90 j) ∧ me_same (fun q => q = 90) M M'
  | 0, k + 1, p, M, _, hp, h4, hT => by
    unfold b_X5_passWord_0
    rw [hT.1, h4, if_pos (nI_le (by omega) (by omega))]
    exact ⟨M, rfl, h4, fun _ _ => rfl, me_same.rf⟩
  | d + 1, k + 1, p, M, hd, hp, h4, hT => by
    unfold b_X5_passWord_0 t_le
    rw [hT.1, h4, if_neg (nI_ge (by omega) (by omega)), e_X5_byteAt hT hn (by omega), zz_bd_some, e_X5_isLetter, zz_bd_some]
    by_cases q : ms_in (T.2 p) 97 122 = 0
    · rw [if_pos q, if_pos q]
      exact ⟨M, rfl, h4, fun _ _ => rfl, me_same.rf⟩
    · rw [if_neg q, if_neg q, me_wr, h4, nI_1]
      obtain ⟨M', a1, a2, a3, a4⟩ := e_X5_passWord hn d k (p + 1) (zz_si M 90 4 (nI (p + 1))) (by omega) (by omega) (me_hit rfl rfl) hT.s90
      exact ⟨M', a1, a2, fun j hj => by rw [a3 j hj, me_ine (by omega)], (me_same.s1).tr a4⟩
theorem e_X5_passNumber5 {T : ms_T} (hn : T.1 ≤ 120) : ∀ (d k p : Nat) (x : Int32) (M : zz_M), d < k → p + d = T.1 → zz_i M 90 4 = nI p → zz_i M 90 5 = x → ms_TC M T →
    ∃ M' : zz_M, b_X5_passNumber_5 k 90 M = some ((), M') ∧ zz_i M' 90 4 = nI (t_dg T d p x).1 ∧ zz_i M' 90 5 = (t_dg T d p x).2 ∧ (∀ j, j ≠ 4 → j ≠ 5 → zz_i M' 90 j = zz_i M 90 j) ∧ me_same (fun q => q = 90) M M'
  | 0, k + 1, p, x, M, _, hp, h4, h5, hT => by
    unfold b_X5_passNumber_5
    rw [hT.1, h4, if_pos (nI_le (by omega) (by omega))]
    exact ⟨M, rfl, h4, h5, fun _ _ _ => rfl, me_same.rf⟩
  | d + 1, k + 1, p, x, M, hd, hp, h4, h5, hT => by
    unfold b_X5_passNumber_5 t_dg
    rw [hT.1, h4, if_neg (nI_ge (by omega) (by omega)), e_X5_byteAt hT hn (by omega), zz_bd_some, e_X5_isDigit, zz_bd_some]
    by_cases q : ms_in (T.2 p) 48 57 = 0
    · rw [if_pos q, if_pos q]
      exact ⟨M, rfl, h4, h5, fun _ _ _ => rfl, me_same.rf⟩
    · rw [if_neg q, if_neg q, h4, e_X5_byteAt hT hn (by omega), zz_bd_some, h5]
      change ∃ M', zz_w (zz_si M 90 5 (t_val x (T.2 p))) _ = _ ∧ _
      rw [me_wr, me_wr, me_ine (by omega), h4, nI_1]
      obtain ⟨M', a1, a2, a3, a4, a5⟩ := e_X5_passNumber5 hn d k (p + 1) (t_val x (T.2 p)) (zz_si (zz_si M 90 5 (t_val x (T.2 p))) 90 4 (nI (p + 1))) (by omega) (by omega) (me_hit rfl rfl) (by rw [me_ine (by omega), me_hit rfl rfl]) hT.s90.s90
      exact ⟨M', a1, a2, a3, fun j hj hj2 => by rw [a4 j hj hj2, me_ine (by omega), me_ine (by omega)], ((me_same.s1).tr me_same.s1).tr a5⟩
theorem e_X5_next48 {T : ms_T} {s : Nat} {M : zz_M} (hn : T.1 ≤ 120) (hs : s ≤ T.1) (h3 : zz_i M 90 3 = nI s) (hT : ms_TC M T) :
    ∃ M' : zz_M, b_X5_next_48 90 M = some ((), M') ∧ zz_i M' 90 2 = nI (if s < T.1 then (if ms_in (T.2 s) 97 122 = 0 then (if ms_in (T.2 s) 48 57 = 0 then (if T.2 s = 59 then 3 else 4) else 2) else 1) else 0) ∧ zz_i M' 90 3 = nI s ∧ zz_i M' 90 4 = nI (if s < T.1 then (if ms_in (T.2 s) 97 122 = 0 then (if ms_in (T.2 s) 48 57 = 0 then s + 1 else (t_dg T (T.1 - s) s 0).1) else t_le T (T.1 - s) s) else s) ∧ ((if s < T.1 then (if ms_in (T.2 s) 97 122 = 0 then (if ms_in (T.2 s) 48 57 = 0 then (if T.2 s = 59 then 3 else 4) else 2) else 1) else 0) = 2 → zz_i M' 90 5 = (t_dg T (T.1 - s) s 0).2) ∧ me_same (fun q => q = 90) M M' := by
  have hT1 : ms_TC (zz_si M 90 4 (nI s)) T := hT.s90
  have g3 : zz_i (zz_si M 90 4 (nI s)) 90 3 = nI s := by rw [me_ine (by omega), h3]
  have g4 : zz_i (zz_si M 90 4 (nI s)) 90 4 = nI s := me_hit rfl rfl
  unfold b_X5_next_48
  rw [h3, me_wr, g3, hT1.1]
  by_cases q : s < T.1
  · rw [if_pos (nI_lt q (by omega)), if_pos q, if_pos q, e_X5_byteAt hT1 hn q, zz_bd_some, e_X5_isLetter, zz_bd_some]
    by_cases ql : ms_in (T.2 s) 97 122 = 0
    · rw [if_pos ql, if_pos ql, if_pos ql, g3, e_X5_byteAt hT1 hn q, zz_bd_some, e_X5_isDigit, zz_bd_some]
      by_cases qd : ms_in (T.2 s) 48 57 = 0
      · rw [if_pos qd, if_pos qd, if_pos qd, g3, e_X5_byteAt hT1 hn q, zz_bd_some]
        unfold b_X5_next_149
        by_cases q59 : T.2 s = 59
        · rw [if_pos q59, if_pos q59, me_wr, me_wr, me_ine (by omega), g4, nI_1]
          refine ⟨_, rfl, ?_, ?_, me_hit rfl rfl, fun z => absurd z (by decide), ((me_same.s1).tr me_same.s1).tr me_same.s1⟩
          · rw [me_ine (by omega), me_hit rfl rfl]; rfl
          · rw [me_ine (by omega), me_ine (by omega), g3]
        · rw [if_neg q59, if_neg q59, me_wr, me_wr, me_ine (by omega), g4, nI_1]
          refine ⟨_, rfl, ?_, ?_, me_hit rfl rfl, fun z => absurd z (by decide), ((me_same.s1).tr me_same.s1).tr me_same.s1⟩
          · rw [me_ine (by omega), me_hit rfl rfl]; rfl
          · rw [me_ine (by omega), me_ine (by omega), g3]
      · rw [if_neg qd, if_neg qd, if_neg qd, me_wr]
        unfold f_X5_passNumber
        rw [me_wr]
        obtain ⟨M', a1, a2, a3, a4, a5⟩ := e_X5_passNumber5 hn (T.1 - s) zz_fuel s 0 (zz_si (zz_si (zz_si M 90 4 (nI s)) 90 2 2) 90 5 0) (by show _ < 5000; omega) (by omega) (by rw [me_ine (by omega), me_ine (by omega), g4]) (me_hit rfl rfl) hT1.s90.s90
        rw [a1, zz_bd_some]
        refine ⟨M', rfl, ?_, ?_, a2, fun _ => a3, (((me_same.s1).tr me_same.s1).tr me_same.s1).tr a5⟩
        · rw [a4 2 (by decide) (by decide), me_ine (by omega), me_hit rfl rfl]; rfl
        · rw [a4 3 (by decide) (by decide), me_ine (by omega), me_ine (by omega), g3]
    · rw [if_neg ql, if_neg ql, if_neg ql, me_wr]
      obtain ⟨M', a1, a2, a3, a4⟩ := e_X5_passWord hn (T.1 - s) zz_fuel s (zz_si (zz_si M 90 4 (nI s)) 90 2 1) (by show _ < 5000; omega) (by omega) (by rw [me_ine (by omega), g4]) hT1.s90
      have a1 : f_X5_passWord 90 _ = some ((), M') := a1
      rw [a1, zz_bd_some]
      refine ⟨M', rfl, ?_, ?_, a2, fun z => absurd z (by decide), ((me_same.s1).tr me_same.s1).tr a4⟩
      · rw [a3 2 (by decide), me_hit rfl rfl]; rfl
      · rw [a3 3 (by decide), me_ine (by omega), g3]
  · rw [if_neg (nI_nlt (by omega) (by omega)), if_neg q, if_neg q, me_wr]
    refine ⟨_, rfl, me_hit rfl rfl, ?_, ?_, fun z => absurd z (by decide), (me_same.s1).tr me_same.s1⟩
    · rw [me_ine (by omega), g3]
    · rw [me_ine (by omega), g4]
theorem e_X5_next8 {T : ms_T} (hn : T.1 ≤ 120) {p0 : Nat} : ∀ (d k p : Nat) (M : zz_M), d < k → p + d = T.1 → t_sk T d p = t_1 T p0 → zz_i M 90 3 = nI p → ms_TC M T →
    ∃ M' : zz_M, b_X5_next_8 k 90 M = some ((), M') ∧ t_C M' T p0 ∧ me_same (fun q => q = 90) M M'
  | d, k + 1, p, M, hd, hp, hsk, h3, hT => by
    have fin : ∀ s, s ≤ T.1 → s = t_1 T p0 → zz_i M 90 3 = nI s → ∃ M' : zz_M, b_X5_next_48 90 M = some ((), M') ∧ t_C M' T p0 ∧ me_same (fun q => q = 90) M M' := by
      intro s hs1 hs2 hs3
      obtain ⟨M', a1, a2, a3, a4, a5, a6⟩ := e_X5_next48 hn hs1 hs3 hT
      subst hs2
      exact ⟨M', a1, ⟨a2, a3, a4, a5⟩, a6⟩
    unfold b_X5_next_8
    rw [hT.1, h3]
    rcases d with _ | d
    · rw [if_pos (nI_le (by omega) (by omega))]
      exact fin p (by omega) hsk h3
    · unfold t_sk at hsk
      rw [if_neg (nI_ge (by omega) (by omega)), e_X5_byteAt hT hn (by omega), zz_bd_some]
      by_cases q : T.2 p = 32
      · rw [if_pos q, h3, me_wr, nI_1]
        rw [if_pos q] at hsk
        obtain ⟨M', a1, a2, a3⟩ := e_X5_next8 hn d k (p + 1) (zz_si M 90 3 (nI (p + 1))) (by omega) (by omega) hsk (me_hit rfl rfl) hT.s90
        exact ⟨M', a1, a2, (me_same.s1).tr a3⟩
      · rw [if_neg q]
        rw [if_neg q] at hsk
        exact fin p (by omega) hsk h3
theorem e_X5_next {T : ms_T} {M : zz_M} {p : Nat} (hn : T.1 ≤ 120) (hp : p ≤ T.1) (h4 : zz_i M 90 4 = nI p) (hT : ms_TC M T) :
    ∃ M' : zz_M, f_X5_next 90 M = some ((), M') ∧ t_C M' T p ∧ me_same (fun q => q = 90) M M' := by
  unfold f_X5_next
  rw [me_wr, h4]
  obtain ⟨M', a1, a2, a3⟩ := e_X5_next8 hn (p0 := p) (T.1 - p) zz_fuel p (zz_si M 90 3 (nI p)) (by show _ < 5000; omega) (by omega) rfl (me_hit rfl rfl) hT.s90
  exact ⟨M', a1, a2, (me_same.s1).tr a3⟩
