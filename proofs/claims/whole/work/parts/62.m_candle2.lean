/-! A candle of the class: a new layer, a dip, how long it burns, burning down, a copy. -/
def ms_lay (wx g : Int32) : Int32 := if wx = 1 then -g else g
theorem ms_lay_ok {wx g : Int32} (h0 : 0 < g) (h1 : g ≤ 100) : ms_lok (ms_lay wx g) := by
  unfold ms_lok ms_lay
  split <;> grind
theorem e_X0_addLayer {M : zz_M} {a : Nat} {kd g wx : Int32} {L : List Int32} (hK : ms_KC M a kd L) (hl : L.length < 40) (h0 : 0 ≤ g) (h1 : g ≤ 100) (hw : wx = 0 ∨ wx = 1) :
    ∃ M' : zz_M, f_X0_addLayer a g wx M = some ((), M') ∧ ms_KC M' a kd (if 0 < g then ms_lay wx g :: L else L) ∧ me_same (fun q => q = a ∨ q = a + 1) M M' := by
  obtain ⟨k0, k1, k2, k3, kL, kok⟩ := id hK
  unfold f_X0_addLayer
  by_cases hg : g ≤ 0
  · rw [if_pos hg, if_neg (by grind)]
    exact ⟨M, rfl, hK, me_same.rf⟩
  have hin : zz_in (nI L.length) 40 = true := me_in hl (by decide)
  have hn : zz_n (nI L.length) = L.length := me_n (by omega)
  have hLok := kok.cons hl (ms_lay_ok (wx := wx) (g := g) (by grind) h1)
  rw [if_neg hg, if_pos (by grind), e_X0_isThick k1 kok.1, if_neg (by omega), zz_bd_some, if_pos rfl]
  unfold ms_lay at hLok ⊢
  rcases hw with rfl | rfl
  · rw [if_pos rfl]
    unfold b_X0_addLayer_60
    simp (disch := omega) only [me_wr, me_hit, me_ine, k1, hin, hn, if_true]
    rw [if_neg (by decide)] at hLok ⊢
    refine ⟨_, rfl, ⟨?_, ?_, ?_, ?_, ⟨?_, ?_⟩, hLok⟩, ?_⟩
    · simp (disch := omega) only [me_hit, me_ine, k0]
    · simp (disch := omega) only [me_hit, me_ine, k1]; exact nI_1 _
    · have : 0 ≤ g := by grind
      simp (disch := omega) only [me_hit, me_ine, k2, ms_tal, this, if_true]; grind
    · have : 0 ≤ g := by grind
      simp (disch := omega) only [me_hit, me_ine, k3, ms_wax, this, if_true]; grind
    · simp (disch := omega) only [me_hit, me_ine]
    · exact kL.congr (fun j hj => by simp (disch := omega) only [me_hit, me_ine])
    · exact ((me_same.si (Or.inl rfl)).tr (me_same.si (Or.inr rfl))).tr (me_same.si (Or.inl rfl))
  · rw [if_neg (by decide)]
    unfold b_X0_addLayer_60
    simp (disch := omega) only [me_wr, me_hit, me_ine, k1, hin, hn, if_true]
    rw [if_pos rfl] at hLok
    refine ⟨_, rfl, ⟨?_, ?_, ?_, ?_, ⟨?_, ?_⟩, hLok⟩, ?_⟩
    · simp (disch := omega) only [me_hit, me_ine, k0]
    · simp (disch := omega) only [me_hit, me_ine, k1]; exact nI_1 _
    · have : ¬ 0 ≤ -g := by grind
      simp (disch := omega) only [me_hit, me_ine, k2, ms_tal, this, if_false]; grind
    · have : ¬ 0 ≤ -g := by grind
      simp (disch := omega) only [me_hit, me_ine, k3, ms_wax, this, if_false]; grind
    · simp (disch := omega) only [me_hit, me_ine]
    · exact kL.congr (fun j hj => by simp (disch := omega) only [me_hit, me_ine])
    · exact ((me_same.si (Or.inl rfl)).tr (me_same.si (Or.inr rfl))).tr (me_same.si (Or.inl rfl))
def ms_cool (w : Int32) : Int32 := if 0 < w - 2 then w - 2 else 0
def ms_more (h g : Int32) : Int32 := if h + g < 99999 then h + g else 99999
def ms_min (t h : Int32) : Int32 := if h < t then h else t
/-- a dip: layers, warmth, what the vat holds -/
def ms_dip (kd : Int32) (L : List Int32) (wx wm ho : Int32) : List Int32 × Int32 × Int32 :=
  if L.length = 40 then (L, wm, ho)
  else if 0 < ms_gain kd (nI L.length) wm then
    (if 0 < ms_min (ms_gain kd (nI L.length) wm) ho then ms_lay wx (ms_min (ms_gain kd (nI L.length) wm) ho) :: L else L, ms_cool wm, ho - ms_min (ms_gain kd (nI L.length) wm) ho)
  else ((ms_lose L (-ms_gain kd (nI L.length) wm)).1, ms_cool wm, ms_more ho (ms_lose L (-ms_gain kd (nI L.length) wm)).2)
theorem ms_gain_b {kd w : Int32} {n : Nat} (hn : n ≤ 40) : -1000 ≤ ms_gain kd (nI n) w ∧ ms_gain kd (nI n) w ≤ 100 := by
  have h1 : 0 ≤ nI n := nI_pos' (by omega)
  have h2 : nI n ≤ 40 := nI_le (a := n) (b := 40) hn (by decide)
  have hp := ms_plain_cases w
  unfold ms_gain
  generalize nI n = s at h1 h2
  rcases hp with h | h | h | h <;> rw [h] <;> simp only <;> (repeat' split) <;> first | decide | grind
/-- a vat: what it is of, its warmth, what it holds -/
def ms_vok (wx wm ho : Int32) : Prop := (wx = 0 ∨ wx = 1) ∧ 0 ≤ wm ∧ wm ≤ 99 ∧ 0 ≤ ho ∧ ho ≤ 99999
theorem ms_dip_ok {kd wx wm ho : Int32} {L : List Int32} (hL : ms_Lok L) (hv : ms_vok wx wm ho) : ms_Lok (ms_dip kd L wx wm ho).1 ∧ ms_vok wx (ms_dip kd L wx wm ho).2.1 (ms_dip kd L wx wm ho).2.2 := by
  obtain ⟨v1, v2, v3, v4, v5⟩ := hv
  have hb := ms_gain_b (kd := kd) (w := wm) hL.1
  unfold ms_dip
  split
  · exact ⟨hL, v1, v2, v3, v4, v5⟩
  · rename_i hl
    generalize ms_gain kd (nI L.length) wm = t at hb ⊢
    split
    · refine ⟨?_, v1, ?_, ?_, ?_, ?_⟩
      · split
        · exact hL.cons (by have := hL.1; omega) (ms_lay_ok (by assumption) (by unfold ms_min; split <;> grind))
        · exact hL
      · simp only [ms_cool]; grind
      · simp only [ms_cool]; grind
      · simp only [ms_min]; grind
      · simp only [ms_min]; grind
    · have h2 := ms_lose_off (L := L) (g := -t) hL (by grind) (by grind)
      refine ⟨ms_lose_ok hL (by grind), v1, ?_, ?_, ?_, ?_⟩
      · simp only [ms_cool]; grind
      · simp only [ms_cool]; grind
      · simp only [ms_more]; grind
      · simp only [ms_more]; grind
theorem ms_dip_len {kd wx wm ho : Int32} {L : List Int32} : (ms_dip kd L wx wm ho).1.length ≤ L.length ∨ ∃ x, (ms_dip kd L wx wm ho).1 = x :: L := by
  unfold ms_dip
  split
  · exact Or.inl (Nat.le_refl _)
  · split
    · simp only
      split
      · exact Or.inr ⟨_, rfl⟩
      · exact Or.inl (Nat.le_refl _)
    · exact Or.inl ms_lose_len
theorem e_X0_dipInto {M : zz_M} {a b : Nat} {kd wx wm ho : Int32} {L : List Int32} (hK : ms_KC M a kd L) (hb : b ≠ a ∧ b ≠ a + 1) (h0 : zz_i M b 0 = wx) (h1 : zz_i M b 1 = wm) (h2 : zz_i M b 2 = ho) (hv : ms_vok wx wm ho) :
    ∃ M' : zz_M, f_X0_dipInto a b M = some ((), M') ∧ ms_KC M' a kd (ms_dip kd L wx wm ho).1 ∧ zz_i M' b 1 = (ms_dip kd L wx wm ho).2.1 ∧ zz_i M' b 2 = (ms_dip kd L wx wm ho).2.2 ∧ (∀ k, k ≠ 1 → k ≠ 2 → zz_i M' b k = zz_i M b k) ∧ me_same (fun q => q = a ∨ q = a + 1 ∨ q = b) M M' := by
  obtain ⟨v1, v2, v3, v4, v5⟩ := hv
  have hL := hK.2.2.2.2.2
  have hgb := ms_gain_b (kd := kd) (w := wm) hL.1
  unfold f_X0_dipInto ms_dip
  rw [e_X0_isThick hK.2.1 hL.1]
  by_cases hl : L.length = 40
  · rw [if_pos hl, if_pos hl, zz_bd_some, if_neg (by decide)]
    exact ⟨M, rfl, hK, h1, h2, fun _ _ _ => rfl, me_same.rf⟩
  rw [if_neg hl, if_neg hl, zz_bd_some, if_pos rfl, e_X0_gain, zz_bd_some, h1, hK.1, hK.2.1]
  generalize ms_gain kd (nI L.length) wm = t at hgb ⊢
  by_cases ht : t ≤ 0
  · rw [if_pos ht, if_neg (by grind)]
    obtain ⟨M1, hM1, hK1, hS1⟩ := e_X0_lose (g := -t) hK (by grind) (by grind)
    have b1 : zz_i M1 b = zz_i M b := hS1.at (by omega)
    rw [hM1, zz_bd_some]
    unfold f_X6_pourIn f_X6_cool
    simp (disch := omega) only [me_wr, zz_bd_some, me_hit, me_ine, b1, h1, h2]
    refine ⟨_, rfl, ?_, ?_, ?_, ?_, ?_⟩
    · exact hK1.fr (by funext k; simp (disch := omega) only [me_ine]) (by funext k; simp (disch := omega) only [me_ine])
    · simp (disch := omega) only [me_hit, me_ine]; rfl
    · simp (disch := omega) only [me_hit, me_ine]; rfl
    · intro k hk1 hk2
      simp (disch := omega) only [me_ine, b1]
    · exact (hS1.wk (fun q hq => by omega)).tr ((me_same.si (Or.inr (Or.inr rfl))).tr (me_same.si (Or.inr (Or.inr rfl))))
  · rw [if_neg ht, if_pos (by grind)]
    unfold f_X6_pourOut
    rw [me_wr, me_wr, zz_bd_some, h2]
    change ∃ M', zz_bd (f_X0_addLayer a (ms_min t ho) _ _) _ = _ ∧ _
    have hK0 : ms_KC (zz_si M b 2 (ho - ms_min t ho)) a kd L := hK.fr (by funext k; simp (disch := omega) only [me_ine]) (by funext k; simp (disch := omega) only [me_ine])
    have e0 : zz_i (zz_si M b 2 (ho - ms_min t ho)) b 0 = wx := by simp (disch := omega) only [me_ine, h0]
    obtain ⟨M1, hM1, hK1, hS1⟩ := e_X0_addLayer (g := ms_min t ho) (wx := wx) hK0 (by have := hL.1; omega) (by unfold ms_min; grind) (by unfold ms_min; grind) v1
    have b1 : zz_i M1 b = zz_i (zz_si M b 2 (ho - ms_min t ho)) b := hS1.at (by omega)
    have e1 : (if ho < t then ho else t) = ms_min t ho := rfl
    rw [e1, e0, hM1, zz_bd_some]
    unfold f_X6_cool
    simp (disch := omega) only [me_wr, zz_bd_some, me_hit, me_ine, b1, h1, h2]
    refine ⟨_, rfl, ?_, ?_, ?_, ?_, ?_⟩
    · exact hK1.fr (by funext k; simp (disch := omega) only [me_ine]) (by funext k; simp (disch := omega) only [me_ine])
    · simp (disch := omega) only [me_hit, me_ine]; rfl
    · simp (disch := omega) only [me_hit, me_ine, b1]
    · intro k hk1 hk2
      simp (disch := omega) only [me_ine, b1]
    · exact (me_same.si (Or.inr (Or.inr rfl))).tr ((hS1.wk (fun q hq => by omega)).tr (me_same.si (Or.inr (Or.inr rfl))))
/-- how long it burns -/
def ms_mins (kd p : Int32) : Int32 := if kd = 1 then p / 3 else if kd = 2 then p + p / 10 else if kd = 3 then (if 60 < p then 60 else p) else if kd = 4 then p + p / 10 + 30 else if kd = 5 then p / 3 else p
def ms_mn (kd : Int32) (L : List Int32) : Int32 := ms_mins kd (3 * ms_tal L + 5 * ms_wax L)
theorem e_X0_minutes {M : zz_M} {a : Nat} {kd : Int32} {L : List Int32} (hK : ms_KC M a kd L) : f_X0_minutes a M = some (ms_mn kd L, M) := by
  unfold f_X0_minutes ms_mn ms_mins
  rw [me_wr, hK.1, hK.2.2.1, hK.2.2.2.1]
  repeat' split
  all_goals rfl
theorem e_X0_grams {M : zz_M} {a : Nat} {kd : Int32} {L : List Int32} (hK : ms_KC M a kd L) : f_X0_grams a M = some (ms_tal L + ms_wax L, M) := by
  unfold f_X0_grams
  rw [hK.2.2.1, hK.2.2.2.1]
theorem e_X0_become {M : zz_M} {a b : Nat} {kd : Int32} {L : List Int32} (hK : ms_KC M b kd L) (hb : a ≠ b ∧ a ≠ b + 1 ∧ a + 1 ≠ b) :
    ∃ M' : zz_M, f_X0_become a b M = some ((), M') ∧ ms_KC M' a kd L ∧ me_same (fun q => q = a ∨ q = a + 1) M M' := by
  obtain ⟨k0, k1, k2, k3, kL, kok⟩ := hK
  have hl := kok.1
  have hc : zz_cpok (0 : Int32) (0 : Int32) (nI L.length) 40 40 = true := by
    simp only [zz_cpok, nI_toInt (show L.length < 2 ^ 31 by omega), Bool.and_eq_true, decide_eq_true_eq]
    have : (0 : Int32).toInt = 0 := rfl
    omega
  have hn : zz_n (nI L.length) = L.length := me_n (by omega)
  have h0 : zz_n (0 : Int32) = 0 := rfl
  unfold f_X0_become
  simp (disch := omega) only [me_wr, me_hit, me_ine, k0, k1, k2, k3, hc, if_true, hn, h0]
  refine ⟨_, rfl, ⟨?_, ?_, ?_, ?_, ?_, kok⟩, ?_⟩
  · simp (disch := omega) only [me_hit, me_ine, me_cne]
  · simp (disch := omega) only [me_hit, me_ine, me_cne]
  · simp (disch := omega) only [me_hit, me_ine, me_cne]
  · simp (disch := omega) only [me_hit, me_ine, me_cne]
  · refine kL.congr (fun j hj => ?_)
    rw [me_chit rfl (by omega) (by omega)]
    simp (disch := omega) only [me_ine]
    congr 1
    omega
  · exact ((((me_same.si (Or.inl rfl)).tr (me_same.si (Or.inl rfl))).tr (me_same.si (Or.inl rfl))).tr (me_same.si (Or.inl rfl))).tr (me_same.ci (Or.inr rfl))
theorem e_X0_strip {M : zz_M} {a : Nat} : ∃ M' : zz_M, f_X0_strip a M = some ((), M') ∧ ms_KC M' a (zz_i M a 0) [] ∧ me_same (fun q => q = a) M M' := by
  unfold f_X0_strip
  simp only [me_wr]
  refine ⟨_, rfl, ⟨?_, ?_, ?_, ?_, trivial, ms_Lok.nil⟩, ?_⟩
  · simp (disch := omega) only [me_hit, me_ine]
  · simp (disch := omega) only [me_hit, me_ine]; rfl
  · simp (disch := omega) only [me_hit, me_ine]; rfl
  · simp (disch := omega) only [me_hit, me_ine]; rfl
  · exact ((me_same.s1).tr (me_same.s1)).tr (me_same.s1)
theorem ms_KC.kd {M : zz_M} {a : Nat} {kd : Int32} {L : List Int32} (k : Int32) (h : ms_KC M a kd L) : ms_KC (zz_si M a 0 k) a k L := by
  obtain ⟨k0, k1, k2, k3, k4, k5⟩ := h
  refine ⟨?_, ?_, ?_, ?_, k4.congr (fun j _ => ?_), k5⟩ <;> simp (disch := omega) only [me_hit, me_ine, k1, k2, k3]
/-- burning down: by minutes -/
def ms_burn : List Int32 → Nat → List Int32
  | [], _ => []
  | t :: L, m =>
    if m / (if 0 ≤ t then 3 else 5) < zz_n (ms_abs t) then ms_thn t (nI (m / (if 0 ≤ t then 3 else 5))) :: L
    else ms_burn L (m - zz_n (ms_abs t) * (if 0 ≤ t then 3 else 5))
theorem ms_lok.nat {t : Int32} (h : ms_lok t) : ∃ s : Nat, 0 < s ∧ s ≤ 100 ∧ ms_abs t = nI s := by
  have h1 := h.abs
  obtain ⟨s, hs, e⟩ := nI_of2 (M := 100) (n := 100) (by decide) (x := ms_abs t) (by grind) h1.2
  refine ⟨s, ?_, hs, e⟩
  rcases Nat.eq_zero_or_pos s with q | q
  · exfalso
    rw [q] at e
    have : nI 0 = 0 := nI_0
    grind
  · exact q
theorem ms_burn_ok : ∀ {L : List Int32} {m : Nat}, ms_Lok L → ms_Lok (ms_burn L m)
  | [], _, h => h
  | t :: L, m, h => by
    obtain ⟨s, s0, s1, hs⟩ := h.head.nat
    have hn : zz_n (ms_abs t) = s := by rw [hs]; exact me_n (by omega)
    unfold ms_burn
    rw [hn]
    by_cases hm : m / (if 0 ≤ t then 3 else 5) < s
    · rw [if_pos hm]
      refine h.tail.cons h.1 (h.head.thin (nI_pos' (by omega)) ?_)
      rw [hs]
      exact nI_ge hm (by omega)
    · rw [if_neg hm]
      exact ms_burn_ok h.tail
theorem e_X0_burn9 {a : Nat} {kd : Int32} : ∀ (L : List Int32) (n : Nat) (M : zz_M) (m : Nat) (x3 : Int32), L.length < n → ms_KC M a kd L → m ≤ 9999 → x3 = nI L.length - 1 →
    ∃ M' : zz_M, b_X0_burnDown_9 n a (nI m) x3 M = some ((), M') ∧ ms_KC M' a kd (ms_burn L m) ∧ me_same (fun q => q = a ∨ q = a + 1) M M'
  | [], n + 1, M, m, x3, _, hK, hm, h3 => by
    refine ⟨M, ?_, hK, me_same.rf⟩
    have h3 : x3 = -1 := h3
    unfold b_X0_burnDown_9
    rw [if_pos (by rw [h3]; decide)]
  | t :: L, n + 1, M, m, x3, hn, hK, hm, h3 => by
    have h3 : x3 = nI L.length := by rw [h3]; exact nI_pred _
    have hlen : L.length < 40 := hK.2.2.2.2.2.1
    have hin : zz_in (nI L.length) 40 = true := me_in hlen (by decide)
    have hnn : zz_n (nI L.length) = L.length := me_n (by omega)
    have ht := hK.2.2.2.2.2.head
    obtain ⟨s, s0, s1, hs⟩ := ht.nat
    have hzn : zz_n (ms_abs t) = s := by rw [hs]; exact me_n (by omega)
    have kt := hK.2.2.2.2.1.1
    rw [Nat.zero_add] at kt
    subst h3
    have core : ∀ e : Nat, 0 < e → e ≤ 5 → ∃ M', b_X0_burnDown_27 (b_X0_burnDown_9 n) a (nI m) (nI L.length) (nI e) M = some ((), M') ∧ ms_KC M' a kd (if m / e < s then ms_thn t (nI (m / e)) :: L else ms_burn L (m - s * e)) ∧ me_same (fun q => q = a ∨ q = a + 1) M M' := by
      intro e e0 e5
      have hq : m / e ≤ 9999 := Nat.le_trans (Nat.div_le_self _ _) hm
      unfold b_X0_burnDown_27
      rw [if_neg (nI_ne0 e0 (by omega)), if_pos hin, hnn, kt, pk_div (by omega) e0 (by omega)]
      change ∃ M', zz_w (if ms_abs t < nI (m / e) then ms_abs t else nI (m / e)) _ = _ ∧ _
      rw [me_wr, hs]
      by_cases hlt : m / e < s
      · rw [if_neg (by rw [nI_ltI (by omega) (by omega)]; omega), if_pos hlt]
        obtain ⟨M1, hM1, hK1, hS1⟩ := e_X0_thin hK (g := nI (m / e)) (nI_pos' (by omega)) (by rw [hs]; exact nI_le (by omega) (by omega))
        rw [if_neg (by rw [hs, nI_eq (by omega) (by omega)]; omega)] at hK1
        rw [hM1, zz_bd_some, me_wr, hK1.2.1, List.length_cons, if_neg (nI_ge (by omega) (by omega))]
        exact ⟨M1, rfl, hK1, hS1⟩
      · have hg : (if nI s < nI (m / e) then nI s else nI (m / e)) = nI s := by
          by_cases q : s = m / e
          · rw [← q]; split <;> rfl
          · rw [if_pos (nI_lt (by omega) (by omega))]
        rw [hg, if_neg hlt]
        obtain ⟨M1, hM1, hK1, hS1⟩ := e_X0_thin hK (g := nI s) (nI_pos' (by omega)) (by rw [hs]; exact nI_le (by omega) (by omega))
        rw [if_pos hs] at hK1
        have hse : s * e ≤ m := by
          have := Nat.div_mul_le_self m e
          have h2 : s * e ≤ m / e * e := Nat.mul_le_mul_right _ (by omega)
          omega
        rw [hM1, zz_bd_some, me_wr, hK1.2.1, if_pos (nI_le (Nat.le_refl _) (by omega)), me_wr, pk_mul, pk_sub hse]
        obtain ⟨M2, hM2, hK2, hS2⟩ := e_X0_burn9 L n M1 (m - s * e) (nI L.length + (-1)) (by simp only [List.length_cons] at hn; omega) hK1 (by omega) (by grind)
        exact ⟨M2, hM2, hK2, hS1.tr hS2⟩
    unfold b_X0_burnDown_9 ms_burn
    rw [if_neg (nI_pos (by omega)), if_pos hin, hnn, kt, hzn]
    by_cases h0 : 0 ≤ t
    · simp only [if_pos h0]
      exact core 3 (by omega) (by omega)
    · simp only [if_neg h0]
      exact core 5 (by omega) (by omega)
theorem e_X0_burn {M : zz_M} {a : Nat} {kd : Int32} {L : List Int32} {m : Nat} (hK : ms_KC M a kd L) (hm : m ≤ 9999) :
    ∃ M' : zz_M, f_X0_burnDown a (nI m) M = some ((), M') ∧ ms_KC M' a kd (ms_burn L m) ∧ me_same (fun q => q = a ∨ q = a + 1) M M' := by
  have hlen : L.length ≤ 40 := hK.2.2.2.2.2.1
  obtain ⟨M', h, hK', hS⟩ := e_X0_burn9 L zz_fuel M m (nI L.length - 1) (show L.length < 5000 by omega) hK hm rfl
  refine ⟨M', ?_, hK', hS⟩
  unfold f_X0_burnDown
  rw [me_wr, hK.2.1]
  exact h
