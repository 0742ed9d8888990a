/-! A candle: its kind, and its layers, the last one first. -/
def ms_abs (t : Int32) : Int32 := if 0 ≤ t then t else 0 - t
def ms_thn (t g : Int32) : Int32 := if 0 ≤ t then t - g else t + g
def ms_lose : List Int32 → Int32 → List Int32 × Int32
  | [], _ => ([], 0)
  | t :: L, g => if g ≤ 0 then (t :: L, 0) else if ms_abs t ≤ g then ((ms_lose L (g - ms_abs t)).1, ms_abs t + (ms_lose L (g - ms_abs t)).2) else (ms_thn t g :: L, g)
def ms_tal : List Int32 → Int32
  | [] => 0
  | t :: L => (if 0 ≤ t then t else 0) + ms_tal L
def ms_wax : List Int32 → Int32
  | [] => 0
  | t :: L => (if 0 ≤ t then 0 else 0 - t) + ms_wax L
/-- a layer: not empty, of few grams -/
def ms_lok (t : Int32) : Prop := t ≠ 0 ∧ -100 ≤ t ∧ t ≤ 100
def ms_Lok (L : List Int32) : Prop := L.length ≤ 40 ∧ ∀ t ∈ L, ms_lok t
/-- the layers stand in a row from 'off' on, the first one first -/
def ms_RL (M : zz_M) (a off : Nat) : List Int32 → Prop
  | [] => True
  | t :: L => zz_i M a (off + L.length) = t ∧ ms_RL M a off L
theorem ms_RL.congr {M M' : zz_M} {a a' off off' : Nat} : ∀ {L : List Int32}, (∀ j, j < L.length → zz_i M' a' (off' + j) = zz_i M a (off + j)) → ms_RL M a off L → ms_RL M' a' off' L
  | [], _, _ => trivial
  | _ :: L, h, hr => ⟨(h L.length (Nat.lt_succ_self _)).trans hr.1, ms_RL.congr (fun j hj => h j (Nat.lt_succ_of_lt hj)) hr.2⟩
/-- the class's candle at a -/
def ms_KC (M : zz_M) (a : Nat) (kd : Int32) (L : List Int32) : Prop := zz_i M a 0 = kd ∧ zz_i M a 1 = nI L.length ∧ zz_i M a 2 = ms_tal L ∧ zz_i M a 3 = ms_wax L ∧ ms_RL M (a + 1) 0 L ∧ ms_Lok L
/-- the reference's candle from o on in the row r -/
def ms_KM (M : zz_M) (r o : Nat) (kd : Int32) (L : List Int32) : Prop := zz_i M r o = kd ∧ zz_i M r (o + 1) = nI L.length ∧ ms_RL M r (o + 2) L ∧ ms_Lok L
theorem ms_KC.fr {M M' : zz_M} {a : Nat} {kd : Int32} {L : List Int32} (h : ms_KC M a kd L) (h0 : zz_i M' a = zz_i M a) (h1 : zz_i M' (a + 1) = zz_i M (a + 1)) : ms_KC M' a kd L := by
  obtain ⟨k0, k1, k2, k3, k4, k5⟩ := h
  exact ⟨by rw [h0, k0], by rw [h0, k1], by rw [h0, k2], by rw [h0, k3], k4.congr (fun j _ => by rw [h1]), k5⟩
theorem ms_KM.fr {M M' : zz_M} {r o : Nat} {kd : Int32} {L : List Int32} (h : ms_KM M r o kd L) (h0 : ∀ j, o ≤ j → j < o + 42 → zz_i M' r j = zz_i M r j) : ms_KM M' r o kd L := by
  obtain ⟨k0, k1, k4, k5⟩ := h
  have := k5.1
  exact ⟨by rw [h0 _ (by omega) (by omega), k0], by rw [h0 _ (by omega) (by omega), k1], k4.congr (fun j hj => by rw [h0 _ (by omega) (by omega)]), k5⟩
theorem ms_KM.mv {M M' : zz_M} {r r' o o' : Nat} {kd : Int32} {L : List Int32} (h : ms_KM M r o kd L) (h0 : ∀ j, j < 42 → zz_i M' r' (o' + j) = zz_i M r (o + j)) : ms_KM M' r' o' kd L := by
  obtain ⟨k0, k1, k4, k5⟩ := h
  have hl := k5.1
  refine ⟨by rw [← k0]; exact h0 0 (by omega), by rw [← k1]; exact h0 1 (by omega), k4.congr (fun j hj => ?_), k5⟩
  rw [Nat.add_assoc, Nat.add_assoc]
  exact h0 (2 + j) (by omega)
theorem ms_lok.abs {t : Int32} (h : ms_lok t) : 0 < ms_abs t ∧ ms_abs t ≤ 100 := by
  unfold ms_abs
  obtain ⟨h1, h2, h3⟩ := h
  split <;> grind
theorem ms_Lok.tail {t : Int32} {L : List Int32} (h : ms_Lok (t :: L)) : ms_Lok L := ⟨Nat.le_of_succ_le h.1, fun x hx => h.2 x (List.mem_cons_of_mem _ hx)⟩
theorem ms_Lok.head {t : Int32} {L : List Int32} (h : ms_Lok (t :: L)) : ms_lok t := h.2 t List.mem_cons_self
theorem ms_Lok.cons {t : Int32} {L : List Int32} (h : ms_Lok L) (hl : L.length < 40) (ht : ms_lok t) : ms_Lok (t :: L) := ⟨hl, fun x hx => by
  rcases List.mem_cons.mp hx with q | q
  · exact q ▸ ht
  · exact h.2 x q⟩
theorem ms_Lok.nil : ms_Lok [] := ⟨Nat.zero_le _, fun x hx => by simp at hx⟩
/-- a thinned layer that isn't gone -/
theorem ms_lok.thin {t g : Int32} (h : ms_lok t) (hg : 0 ≤ g) (hl : ¬ ms_abs t ≤ g) : ms_lok (ms_thn t g) := by
  obtain ⟨h1, h2, h3⟩ := h
  unfold ms_abs at hl
  unfold ms_lok ms_thn
  split <;> grind
theorem ms_lose_ok : ∀ {L : List Int32} {g : Int32}, ms_Lok L → g ≤ 1000 → ms_Lok (ms_lose L g).1
  | [], _, h, _ => h
  | t :: L, g, h, hg => by
    unfold ms_lose
    split
    · exact h
    · split
      · have h1 := h.head.abs
        exact ms_lose_ok h.tail (by grind)
      · rename_i h1 h2
        exact ms_Lok.cons h.tail h.1 (h.head.thin (by grind) h2)
theorem ms_lose_off : ∀ {L : List Int32} {g : Int32}, ms_Lok L → 0 ≤ g → g ≤ 1000 → 0 ≤ (ms_lose L g).2 ∧ (ms_lose L g).2 ≤ g
  | [], _, _, h0, _ => ⟨Int32.le_refl 0, h0⟩
  | t :: L, g, h, h0, hg => by
    unfold ms_lose
    split
    · exact ⟨Int32.le_refl 0, h0⟩
    · split
      · have h1 := h.head.abs
        have h2 := ms_lose_off (L := L) (g := g - ms_abs t) h.tail (by grind) (by grind)
        grind
      · grind
theorem ms_lose_len : ∀ {L : List Int32} {g : Int32}, (ms_lose L g).1.length ≤ L.length
  | [], _ => Nat.le_refl _
  | t :: L, g => by
    unfold ms_lose
    split
    · exact Nat.le_refl _
    · split
      · exact Nat.le_succ_of_le ms_lose_len
      · exact Nat.le_refl _
theorem ms_len {n : Nat} (h : n ≤ 40) : (nI n).toInt = (n : Int) := nI_toInt (by omega)
theorem e_X0_isThick {M : zz_M} {a n : Nat} (h : zz_i M a 1 = nI n) (hn : n ≤ 40) : f_X0_isThick a M = some (if n = 40 then 1 else 0, M) := by
  unfold f_X0_isThick
  rw [h]
  by_cases h40 : n = 40
  · subst h40; rfl
  · rw [if_neg h40, if_pos (me_lt (y := 40) (n) 40 rfl (by omega) (by decide))]
/-- a candle's last layer is thinned -/
theorem e_X0_thin {M : zz_M} {a : Nat} {kd t g : Int32} {L : List Int32} (hK : ms_KC M a kd (t :: L)) (hg : 0 ≤ g) (hl : g ≤ ms_abs t) :
    ∃ M' : zz_M, f_X0_thin a (nI L.length) g M = some ((), M') ∧ ms_KC M' a kd (if ms_abs t = g then L else ms_thn t g :: L) ∧ me_same (fun q => q = a ∨ q = a + 1) M M' := by
  obtain ⟨k0, k1, k2, k3, ⟨kt, kL⟩, kok⟩ := hK
  have hlen : L.length < 40 := kok.1
  have hin : zz_in (nI L.length) 40 = true := me_in hlen (by decide)
  have hn : zz_n (nI L.length) = L.length := me_n (by omega)
  rw [Nat.zero_add] at kt
  have ht := kok.head
  have hta := ht.abs
  have hth : ¬ ms_abs t = g → ms_Lok (ms_thn t g :: L) := fun h => ms_Lok.cons kok.tail hlen (ht.thin hg (by grind))
  unfold ms_thn at hth ⊢
  unfold f_X0_thin b_X0_thin_52
  by_cases hs : 0 ≤ t
  · have hab : ms_abs t = t := if_pos hs
    rw [hab] at hl hth ⊢
    rw [if_pos hs] at hth
    simp (disch := omega) only [hin, hn, kt, if_true, hs, me_wr, me_hit, me_ine]
    by_cases hz : t = g
    · subst hz
      rw [if_pos (by grind), if_pos rfl]
      refine ⟨_, rfl, ⟨?_, ?_, ?_, ?_, ?_, kok.tail⟩, ?_⟩
      · simp (disch := omega) only [me_hit, me_ine, k0]
      · simp (disch := omega) only [me_hit, me_ine]
      · simp (disch := omega) only [me_hit, me_ine, k2, ms_tal, hs, if_true]; grind
      · simp (disch := omega) only [me_hit, me_ine, k3, ms_wax, hs, if_true]; grind
      · exact kL.congr (fun j hj => by simp (disch := omega) only [me_hit, me_ine])
      · exact ((me_same.si (Or.inl rfl)).tr (me_same.si (Or.inr rfl))).tr (me_same.si (Or.inl rfl))
    · rw [if_neg (by grind), if_neg hz]
      refine ⟨_, rfl, ⟨?_, ?_, ?_, ?_, ⟨?_, ?_⟩, hth hz⟩, ?_⟩
      · simp (disch := omega) only [me_hit, me_ine, k0]
      · simp (disch := omega) only [me_hit, me_ine, k1]; rfl
      · have : 0 ≤ t - g := by grind
        simp (disch := omega) only [me_hit, me_ine, k2, ms_tal, hs, this, if_true]; grind
      · have : 0 ≤ t - g := by grind
        simp (disch := omega) only [me_hit, me_ine, k3, ms_wax, hs, this, if_true]
      · simp (disch := omega) only [me_hit, me_ine, if_true]
      · exact kL.congr (fun j hj => by simp (disch := omega) only [me_hit, me_ine])
      · exact (me_same.si (Or.inl rfl)).tr (me_same.si (Or.inr rfl))
  · have hab : ms_abs t = 0 - t := if_neg hs
    rw [hab] at hl hth ⊢
    rw [if_neg hs] at hth
    simp (disch := omega) only [hin, hn, kt, if_true, hs, me_wr, me_hit, me_ine, if_false]
    by_cases hz : 0 - t = g
    · rw [if_pos (by grind), if_pos hz]
      refine ⟨_, rfl, ⟨?_, ?_, ?_, ?_, ?_, kok.tail⟩, ?_⟩
      · simp (disch := omega) only [me_hit, me_ine, k0]
      · simp (disch := omega) only [me_hit, me_ine]
      · simp (disch := omega) only [me_hit, me_ine, k2, ms_tal, hs, if_false]; grind
      · simp (disch := omega) only [me_hit, me_ine, k3, ms_wax, hs, if_false]; grind
      · exact kL.congr (fun j hj => by simp (disch := omega) only [me_hit, me_ine])
      · exact ((me_same.si (Or.inl rfl)).tr (me_same.si (Or.inr rfl))).tr (me_same.si (Or.inl rfl))
    · rw [if_neg (by grind), if_neg hz]
      refine ⟨_, rfl, ⟨?_, ?_, ?_, ?_, ⟨?_, ?_⟩, hth hz⟩, ?_⟩
      · simp (disch := omega) only [me_hit, me_ine, k0]
      · simp (disch := omega) only [me_hit, me_ine, k1]; rfl
      · have : ¬ 0 ≤ t + g := by grind
        simp (disch := omega) only [me_hit, me_ine, k2, ms_tal, hs, this, if_false]
      · have : ¬ 0 ≤ t + g := by grind
        simp (disch := omega) only [me_hit, me_ine, k3, ms_wax, hs, this, if_false]; grind
      · simp (disch := omega) only [me_hit, me_ine, if_false]
      · exact kL.congr (fun j hj => by simp (disch := omega) only [me_hit, me_ine])
      · exact (me_same.si (Or.inl rfl)).tr (me_same.si (Or.inr rfl))
theorem e_X0_lose9 {a : Nat} {kd x1 : Int32} (hx1 : x1 ≤ 1000) : ∀ (L : List Int32) (n : Nat) (M : zz_M) (x2 x3 : Int32), L.length < n → ms_KC M a kd L → 0 ≤ x2 → x2 ≤ x1 → x3 = nI L.length - 1 →
    ∃ M' : zz_M, b_X0_loseGrams_9 n a x1 x2 x3 M = some (x2 + (ms_lose L (x1 - x2)).2, M') ∧ ms_KC M' a kd (ms_lose L (x1 - x2)).1 ∧ me_same (fun q => q = a ∨ q = a + 1) M M'
  | [], n + 1, M, x2, x3, _, hK, h0, h2, h3 => by
    refine ⟨M, ?_, hK, me_same.rf⟩
    have h3 : x3 = -1 := h3
    unfold b_X0_loseGrams_9
    rw [if_pos (by rw [h3]; decide)]
    simp only [ms_lose]
    congr 2
    grind
  | t :: L, n + 1, M, x2, x3, hn, hK, h0, h2, h3 => by
    have h3 : x3 = nI L.length := by rw [h3]; exact nI_pred _
    have hlen : L.length < 40 := hK.2.2.2.2.2.1
    have hin : zz_in (nI L.length) 40 = true := me_in hlen (by decide)
    have hnn : zz_n (nI L.length) = L.length := me_n (by omega)
    have ht := hK.2.2.2.2.2.head
    have hta := ht.abs
    have kt := hK.2.2.2.2.1.1
    rw [Nat.zero_add] at kt
    subst h3
    unfold b_X0_loseGrams_9
    rw [if_neg (nI_pos (by omega))]
    unfold ms_lose
    by_cases hg : x1 ≤ x2
    · rw [if_pos hg, if_pos (by grind)]
      exact ⟨M, by congr 2; grind, hK, me_same.rf⟩
    · rw [if_neg hg, if_pos hin, hnn, kt, if_neg (show ¬ x1 - x2 ≤ 0 by grind)]
      change ∃ M', zz_w (if ms_abs t < (x1 - x2) then ms_abs t else (x1 - x2)) _ = _ ∧ _
      rw [me_wr]
      by_cases ha : ms_abs t ≤ x1 - x2
      · have e : (if ms_abs t < (x1 - x2) then ms_abs t else (x1 - x2)) = ms_abs t := by split <;> grind
        obtain ⟨M1, hM1, hK1, hS1⟩ := e_X0_thin hK (g := ms_abs t) (by grind) (by grind)
        rw [if_pos rfl] at hK1
        rw [e, hM1, zz_bd_some, me_wr, me_wr, if_pos ha]
        obtain ⟨M2, hM2, hK2, hS2⟩ := e_X0_lose9 hx1 L n M1 (x2 + ms_abs t) (nI L.length + (-1)) (by simp only [List.length_cons] at hn; omega) hK1 (by grind) (by grind) (by grind)
        have e2 : x1 - (x2 + ms_abs t) = x1 - x2 - ms_abs t := by grind
        rw [e2] at hM2 hK2
        exact ⟨M2, by rw [hM2]; congr 2; grind, hK2, hS1.tr hS2⟩
      · have e : (if ms_abs t < (x1 - x2) then ms_abs t else (x1 - x2)) = x1 - x2 := by rw [if_neg (by grind)]
        obtain ⟨M1, hM1, hK1, hS1⟩ := e_X0_thin hK (g := x1 - x2) (by grind) (by grind)
        rw [if_neg (by grind)] at hK1
        rw [e, hM1, zz_bd_some, me_wr, me_wr, if_neg ha]
        refine ⟨M1, ?_, hK1, hS1⟩
        rcases n with _ | n
        · simp only [List.length_cons] at hn; omega
        · unfold b_X0_loseGrams_9
          rw [if_pos (show x1 ≤ x2 + (x1 - x2) by grind)]
          split <;> rfl
theorem e_X0_lose {M : zz_M} {a : Nat} {kd g : Int32} {L : List Int32} (hK : ms_KC M a kd L) (h0 : 0 ≤ g) (h1 : g ≤ 1000) :
    ∃ M' : zz_M, f_X0_loseGrams a g M = some ((ms_lose L g).2, M') ∧ ms_KC M' a kd (ms_lose L g).1 ∧ me_same (fun q => q = a ∨ q = a + 1) M M' := by
  have hlen : L.length ≤ 40 := hK.2.2.2.2.2.1
  obtain ⟨M', h, hK', hS⟩ := e_X0_lose9 h1 L zz_fuel M 0 (nI L.length - 1) (show L.length < 5000 by omega) hK (by decide) h0 rfl
  have e : g - 0 = g := by grind
  have e2 : ∀ x : Int32, 0 + x = x := by intro x; grind
  rw [e, e2] at h
  rw [e] at hK'
  refine ⟨M', ?_, hK', hS⟩
  unfold f_X0_loseGrams
  rw [me_wr, hK.2.1]
  exact h
