/-! The vats: a picture V of wood (1), draught (2), hour (3), vat v's four numbers (4 + 4 * v on). -/
def ms_u (V : Nat → Int32) (j : Nat) (x : Int32) : Nat → Int32 := fun q => if q = j then x else V q
theorem ms_u_hit {V : Nat → Int32} {j q : Nat} {x : Int32} (h : q = j) : ms_u V j x q = x := if_pos h
theorem ms_u_ne {V : Nat → Int32} {j q : Nat} {x : Int32} (h : ¬ q = j) : ms_u V j x q = V q := if_neg h
def ms_heat (w : Int32) : Int32 := if w + 10 < 99 then w + 10 else 99
def ms_coolb (w d : Int32) : Int32 := if 0 < w - d then w - d else 0
def ms_tend (V : Nat → Int32) (v : Nat) : Nat → Int32 :=
  if V (4 + 4 * v + 3) = 1 ∧ 0 < V 1 then ms_u (ms_u V 1 (V 1 - 1)) (4 + 4 * v + 1) (ms_heat (V (4 + 4 * v + 1)))
  else ms_u V (4 + 4 * v + 1) (ms_coolb (V (4 + 4 * v + 1)) (V 2))
def ms_tl : Nat → Nat → (Nat → Int32) → Nat → Int32
  | 0, _, V => V
  | d + 1, v, V => ms_tl d (v + 1) (ms_tend V v)
def ms_hour (V : Nat → Int32) : Nat → Int32 := ms_u (ms_tl 4 0 V) 3 (ms_tl 4 0 V 3 + 1)
def ms_pass : Nat → (Nat → Int32) → Nat → Int32
  | 0, V => V
  | n + 1, V => ms_pass n (ms_hour V)
def ms_okV (V : Nat → Int32) : Prop := (0 ≤ V 1 ∧ V 1 ≤ 9999) ∧ (0 ≤ V 2 ∧ V 2 ≤ 9) ∧ ∀ v, v < 4 → ms_vok (V (4 + 4 * v)) (V (4 + 4 * v + 1)) (V (4 + 4 * v + 2)) ∧ (V (4 + 4 * v + 3) = 0 ∨ V (4 + 4 * v + 3) = 1)
theorem ms_tend_at (V : Nat → Int32) (v q : Nat) (h1 : q ≠ 1) (h2 : q ≠ 4 + 4 * v + 1) : ms_tend V v q = V q := by
  unfold ms_tend
  split
  · rw [ms_u_ne h2, ms_u_ne h1]
  · rw [ms_u_ne h2]
theorem ms_tend_ok {V : Nat → Int32} {v : Nat} (hv : v < 4) (h : ms_okV V) : ms_okV (ms_tend V v) := by
  obtain ⟨⟨w0, w1⟩, ⟨d0, d1⟩, hV⟩ := id h
  have hvv := (hV v hv).1
  obtain ⟨x1, x2, x3, x4, x5⟩ := hvv
  refine ⟨?_, ?_, ?_⟩
  · unfold ms_tend
    split
    · rename_i hq
      rw [ms_u_ne (by omega), ms_u_hit rfl]; grind
    · rw [ms_u_ne (by omega)]; exact ⟨w0, w1⟩
  · rw [ms_tend_at _ _ _ (by omega) (by omega)]; exact ⟨d0, d1⟩
  · intro u hu
    rw [ms_tend_at _ _ (4 + 4 * u) (by omega) (by omega), ms_tend_at _ _ (4 + 4 * u + 2) (by omega) (by omega), ms_tend_at _ _ (4 + 4 * u + 3) (by omega) (by omega)]
    refine ⟨?_, (hV u hu).2⟩
    by_cases e : u = v
    · subst e
      refine ⟨x1, ?_, ?_, x4, x5⟩
      · unfold ms_tend
        split
        · rw [ms_u_hit rfl, ms_heat]; grind
        · rw [ms_u_hit rfl, ms_coolb]; grind
      · unfold ms_tend
        split
        · rw [ms_u_hit rfl, ms_heat]; grind
        · rw [ms_u_hit rfl, ms_coolb]; grind
    · rw [ms_tend_at _ _ (4 + 4 * u + 1) (by omega) (by omega)]
      exact (hV u hu).1
theorem ms_tl_ok : ∀ {d v : Nat} {V : Nat → Int32}, v + d ≤ 4 → ms_okV V → ms_okV (ms_tl d v V)
  | 0, _, _, _, h => h
  | d + 1, v, _, hv, h => ms_tl_ok (d := d) (v := v + 1) (by omega) (ms_tend_ok (by omega) h)
theorem ms_okV.congr {V W : Nat → Int32} (h : ms_okV V) (e : ∀ q, q ≠ 3 → q < 20 → W q = V q) : ms_okV W := by
  obtain ⟨h1, h2, h3⟩ := h
  refine ⟨by rw [e 1 (by omega) (by omega)]; exact h1, by rw [e 2 (by omega) (by omega)]; exact h2, fun v hv => ?_⟩
  rw [e (4 + 4 * v) (by omega) (by omega), e (4 + 4 * v + 1) (by omega) (by omega), e (4 + 4 * v + 2) (by omega) (by omega), e (4 + 4 * v + 3) (by omega) (by omega)]
  exact h3 v hv
theorem ms_hour_ok {V : Nat → Int32} (h : ms_okV V) : ms_okV (ms_hour V) := (ms_tl_ok (d := 4) (v := 0) (by omega) h).congr (fun q hq _ => by unfold ms_hour; rw [ms_u_ne hq])
theorem ms_pass_ok : ∀ {n : Nat} {V : Nat → Int32}, ms_okV V → ms_okV (ms_pass n V)
  | 0, _, h => h
  | n + 1, _, h => ms_pass_ok (n := n) (ms_hour_ok h)
theorem ms_tl_3 : ∀ (d v : Nat) (V : Nat → Int32), ms_tl d v V 3 = V 3
  | 0, _, _ => rfl
  | d + 1, v, V => by rw [ms_tl, ms_tl_3 d (v + 1), ms_tend_at _ _ _ (by omega) (by omega)]
theorem ms_hour_3 (V : Nat → Int32) : ms_hour V 3 = V 3 + 1 := by rw [ms_hour, ms_u_hit rfl, ms_tl_3]
theorem ms_pass_3 : ∀ (n : Nat) (V : Nat → Int32), ms_pass n V 3 = V 3 + nI n
  | 0, V => by rw [ms_pass, nI_0]; grind
  | n + 1, V => by rw [ms_pass, ms_pass_3 n, ms_hour_3, nI_succ]; grind
/-- the class's vats at a -/
def ms_RV (M : zz_M) (a : Nat) (V : Nat → Int32) : Prop := zz_i M a 1 = V 1 ∧ zz_i M a 2 = V 2 ∧ zz_i M a 3 = V 3 ∧ ∀ v, v < 4 → ∀ k, k < 4 → zz_i M (a + 2 + v) k = V (4 + 4 * v + k)
theorem ms_RV.fr {M M' : zz_M} {a : Nat} {V : Nat → Int32} (h : ms_RV M a V) (e : ∀ q, a ≤ q → q < a + 6 → zz_i M' q = zz_i M q) : ms_RV M' a V := by
  obtain ⟨h1, h2, h3, h4⟩ := h
  refine ⟨by rw [e a (by omega) (by omega), h1], by rw [e a (by omega) (by omega), h2], by rw [e a (by omega) (by omega), h3], fun v hv k hk => ?_⟩
  rw [e _ (by omega) (by omega)]
  exact h4 v hv k hk
/-- the reference's vats in the row -/
def ms_RW (M : zz_M) (r : Nat) (V : Nat → Int32) : Prop := ∀ j, 1 ≤ j → j < 20 → zz_i M r j = V j
/-- one number of the class's vats becomes another one -/
theorem ms_RV.u {M : zz_M} {a : Nat} {V : Nat → Int32} {v k : Nat} (x : Int32) (h : ms_RV M a V) (hv : v < 4) (hk : k < 4) : ms_RV (zz_si M (a + 2 + v) k x) a (ms_u V (4 + 4 * v + k) x) := by
  obtain ⟨h1, h2, h3, h4⟩ := h
  refine ⟨?_, ?_, ?_, fun u hu j hj => ?_⟩
  · rw [me_ine (by omega), ms_u_ne (by omega), h1]
  · rw [me_ine (by omega), ms_u_ne (by omega), h2]
  · rw [me_ine (by omega), ms_u_ne (by omega), h3]
  · by_cases e : u = v ∧ j = k
    · rw [me_hit (by omega) e.2, ms_u_hit (by omega)]
    · rw [me_ine (by omega), ms_u_ne (by omega), h4 u hu j hj]
theorem ms_RV.u0 {M : zz_M} {a : Nat} {V : Nat → Int32} {k : Nat} (x : Int32) (h : ms_RV M a V) (hk : 1 ≤ k ∧ k < 4) : ms_RV (zz_si M a k x) a (ms_u V k x) := by
  obtain ⟨h1, h2, h3, h4⟩ := h
  have e : ∀ j, 1 ≤ j → j < 4 → zz_i M a j = V j → zz_i (zz_si M a k x) a j = ms_u V k x j := by
    intro j hj1 hj2 hj
    by_cases e : j = k
    · rw [me_hit rfl e, ms_u_hit e]
    · rw [me_ine (by omega), ms_u_ne e, hj]
  refine ⟨e 1 (by omega) (by omega) h1, e 2 (by omega) (by omega) h2, e 3 (by omega) (by omega) h3, fun u hu j hj => ?_⟩
  rw [me_ine (by omega), ms_u_ne (by omega), h4 u hu j hj]
theorem ms_RW.u {M : zz_M} {V : Nat → Int32} {k : Nat} (x : Int32) (h : ms_RW M 130 V) : ms_RW (zz_si M 130 k x) 130 (ms_u V k x) := by
  intro j hj1 hj2
  by_cases e : j = k
  · rw [me_hit rfl e, ms_u_hit e]
  · rw [me_ine (by omega), ms_u_ne e, h j hj1 hj2]
theorem ms_RV.eqv {M : zz_M} {a : Nat} {V W : Nat → Int32} (h : ms_RV M a V) (e : ∀ q, q < 20 → W q = V q) : ms_RV M a W := by
  obtain ⟨h1, h2, h3, h4⟩ := h
  exact ⟨by rw [h1, e _ (by omega)], by rw [h2, e _ (by omega)], by rw [h3, e _ (by omega)], fun v hv k hk => by rw [h4 v hv k hk, e _ (by omega)]⟩
theorem e_X7_tend {M : zz_M} {a v : Nat} {V : Nat → Int32} (hv : v < 4) (hR : ms_RV M a V) (hok : ms_okV V) :
    ∃ M' : zz_M, f_X7_tend a (a + 1 + 1 + v) M = some ((), M') ∧ ms_RV M' a (ms_tend V v) ∧ me_same (fun q => a ≤ q ∧ q < a + 6) M M' := by
  obtain ⟨h1, h2, h3, h4⟩ := id hR
  have ea : a + 1 + 1 + v = a + 2 + v := by omega
  have hw := h4 v hv 1 (by omega)
  have hf := h4 v hv 3 (by omega)
  rw [ea]
  unfold f_X7_tend ms_tend b_X7_tend_31 f_X6_cool f_X6_heat
  rw [hf, h1]
  by_cases q : V (4 + 4 * v + 3) = 1 ∧ 0 < V 1
  · rw [if_neg (by rw [q.1]; decide), if_neg (by grind), if_pos q]
    simp (disch := omega) only [me_wr, zz_bd_some, me_ine, hw]
    exact ⟨_, rfl, (hR.u0 _ (by omega)).u _ hv (by omega), (me_same.si (by omega)).tr (me_same.si (by omega))⟩
  · rw [if_neg q]
    have fin : ∃ M', zz_bd (zz_w (zz_si M (a + 2 + v) 1 (if (0 : Int32) < ((zz_i M (a + 2 + v) 1) - zz_i M a 2) then ((zz_i M (a + 2 + v) 1) - zz_i M a 2) else (0 : Int32))) (fun M_1 => some ((), M_1))) (fun _ M_5 => some ((), M_5)) = some ((), M') ∧ ms_RV M' a (ms_u V (4 + 4 * v + 1) (ms_coolb (V (4 + 4 * v + 1)) (V 2))) ∧ me_same (fun q => a ≤ q ∧ q < a + 6) M M' := by
      rw [me_wr, zz_bd_some, hw, h2]
      exact ⟨_, rfl, hR.u _ hv (by omega), me_same.si (by omega)⟩
    rcases (hok.2.2 v hv).2 with z | z
    · rw [if_pos z]; exact fin
    · rw [if_neg (by rw [z]; decide)]
      by_cases p : V 1 ≤ 0
      · rw [if_pos p]; exact fin
      · exact absurd ⟨z, by grind⟩ q
theorem e_X7_pass9 {a : Nat} {x1 x2 : Int32} (k2 : Nat → Int32 → Int32 → zz_M → Option (Unit × zz_M)) : ∀ (d n v : Nat) (M : zz_M) (V : Nat → Int32), d < n → v + d = 4 → ms_RV M a V → ms_okV V →
    ∃ M' : zz_M, b_X7_pass_9 k2 n a x1 x2 (nI v) M = k2 a x1 (x2 + 1) M' ∧ ms_RV M' a (ms_u (ms_tl d v V) 3 (ms_tl d v V 3 + 1)) ∧ me_same (fun q => a ≤ q ∧ q < a + 6) M M'
  | 0, n + 1, v, M, V, _, hv, hR, hok => by
    have : v = 4 := by omega
    subst this
    unfold b_X7_pass_9
    rw [if_pos (by decide), me_wr, me_wr, hR.2.2.1]
    exact ⟨_, rfl, hR.u0 _ (by omega), me_same.si (by omega)⟩
  | d + 1, n + 1, v, M, V, hd, hv, hR, hok => by
    obtain ⟨M1, hM1, hR1, hS1⟩ := e_X7_tend (v := v) (by omega) hR hok
    unfold b_X7_pass_9
    rw [if_neg (me_ge (y := 4) v 4 rfl (by omega) (by decide)), if_pos (me_in (by omega) (by decide)), me_n (by omega), hM1, zz_bd_some, me_wr, nI_1]
    obtain ⟨M2, hM2, hR2, hS2⟩ := e_X7_pass9 k2 d n (v + 1) M1 _ (by omega) (by omega) hR1 (ms_tend_ok (by omega) hok)
    exact ⟨M2, hM2, hR2, hS1.tr hS2⟩
theorem e_X7_pass2 {a N : Nat} (hN : N ≤ 400) : ∀ (d n i : Nat) (M : zz_M) (V : Nat → Int32), d < n → i + d = N → ms_RV M a V → ms_okV V →
    ∃ M' : zz_M, b_X7_pass_2 n a (nI N) (nI i) M = some ((), M') ∧ ms_RV M' a (ms_pass d V) ∧ me_same (fun q => a ≤ q ∧ q < a + 6) M M'
  | 0, n + 1, i, M, V, _, hi, hR, hok => by
    have : i = N := by omega
    subst this
    unfold b_X7_pass_2
    rw [if_pos (nI_le (Nat.le_refl _) (by omega))]
    exact ⟨M, rfl, hR, me_same.rf⟩
  | d + 1, n + 1, i, M, V, hd, hi, hR, hok => by
    unfold b_X7_pass_2
    rw [if_neg (nI_ge (by omega) (by omega))]
    obtain ⟨M1, hM1, hR1, hS1⟩ := e_X7_pass9 (a := a) (x1 := nI N) (x2 := nI i) (b_X7_pass_2 n) 4 zz_fuel 0 M V (by decide) (by omega) hR hok
    rw [nI_1] at hM1
    obtain ⟨M2, hM2, hR2, hS2⟩ := e_X7_pass2 hN d n (i + 1) M1 (ms_hour V) (by omega) (by omega) hR1 (ms_hour_ok hok)
    exact ⟨M2, hM1.trans hM2, hR2, hS1.tr hS2⟩
theorem e_X7_pass {M : zz_M} {a n : Nat} {V : Nat → Int32} (hn : n ≤ 400) (hR : ms_RV M a V) (hok : ms_okV V) :
    ∃ M' : zz_M, f_X7_pass a (nI n) M = some ((), M') ∧ ms_RV M' a (ms_pass n V) ∧ me_same (fun q => a ≤ q ∧ q < a + 6) M M' :=
  e_X7_pass2 hn n zz_fuel 0 M V (show n < 5000 by omega) (by omega) hR hok
theorem e_X7_become2 {a b : Nat} (hab : a + 6 ≤ b ∨ b + 6 ≤ a) {V : Nat → Int32} (hok : ms_okV V) : ∀ (d n i : Nat) (M : zz_M), d < n → i + d = 4 → ms_RV M b V → (∀ v, v < i → ∀ k, k < 4 → zz_i M (a + 2 + v) k = V (4 + 4 * v + k)) →
    ∃ M' : zz_M, b_X7_become_2 n a b (nI i) M = some ((), M') ∧ ms_RV M' a V ∧ me_same (fun q => a ≤ q ∧ q < a + 6) M M'
  | 0, n + 1, i, M, _, hi, hR, hdo => by
    have : i = 4 := by omega
    subst this
    unfold b_X7_become_2
    rw [if_pos (by decide)]
    simp (disch := omega) only [me_wr, me_ine, hR.1, hR.2.1, hR.2.2.1]
    refine ⟨_, rfl, ⟨?_, ?_, ?_, fun v hv k hk => ?_⟩, ((me_same.si (by omega)).tr (me_same.si (by omega))).tr (me_same.si (by omega))⟩
    · simp (disch := omega) only [me_hit, me_ine]
    · simp (disch := omega) only [me_hit, me_ine]
    · simp (disch := omega) only [me_hit, me_ine]
    · simp (disch := omega) only [me_ine, hdo v hv k hk]
  | d + 1, n + 1, i, M, hd, hi, hR, hdo => by
    unfold b_X7_become_2
    have h0 := hR.2.2.2 i (by omega) 0 (by omega)
    have h1 := hR.2.2.2 i (by omega) 1 (by omega)
    have h2 := hR.2.2.2 i (by omega) 2 (by omega)
    have h3 := hR.2.2.2 i (by omega) 3 (by omega)
    have b0 : zz_bit (V (4 + 4 * i + 0)) = true := by rcases (hok.2.2 i (by omega)).1.1 with z | z <;> rw [Nat.add_zero, z] <;> rfl
    have b3 : zz_bit (V (4 + 4 * i + 3)) = true := by rcases (hok.2.2 i (by omega)).2 with z | z <;> rw [z] <;> rfl
    rw [if_neg (me_ge (y := 4) i 4 rfl (by omega) (by decide)), if_pos (me_in (by omega) (by decide)), if_pos (me_in (by omega) (by decide)), me_n (by omega)]
    unfold f_X6_become
    rw [show a + 1 + 1 + i = a + 2 + i by omega, show b + 1 + 1 + i = b + 2 + i by omega]
    simp (disch := omega) only [me_wr, me_ine, h0, h1, h2, h3, b0, b3, if_true, zz_bd_some, nI_1]
    refine (fun h => ?_) (e_X7_become2 hab hok d n (i + 1) (zz_si (zz_si (zz_si (zz_si M (a + 2 + i) 0 (V (4 + 4 * i + 0))) (a + 2 + i) 1 (V (4 + 4 * i + 1))) (a + 2 + i) 2 (V (4 + 4 * i + 2))) (a + 2 + i) 3 (V (4 + 4 * i + 3))) (by omega) (by omega) (hR.fr (fun q hq1 hq2 => by funext k; simp (disch := omega) only [me_ine])) ?_)
    · obtain ⟨M2, hM2, hR2, hS2⟩ := h
      exact ⟨M2, hM2, hR2, ((((me_same.si (by omega)).tr (me_same.si (by omega))).tr (me_same.si (by omega))).tr (me_same.si (by omega))).tr hS2⟩
    · intro v hv k hk
      by_cases e : v = i
      · subst e
        rcases (show k = 0 ∨ k = 1 ∨ k = 2 ∨ k = 3 by omega) with rfl | rfl | rfl | rfl <;> simp (disch := omega) only [me_hit, me_ine]
      · simp (disch := omega) only [me_ine]
        exact hdo v (by omega) k hk
theorem e_X7_become {M : zz_M} {a b : Nat} {V : Nat → Int32} (hab : a + 6 ≤ b ∨ b + 6 ≤ a) (hR : ms_RV M b V) (hok : ms_okV V) :
    ∃ M' : zz_M, f_X7_become a b M = some ((), M') ∧ ms_RV M' a V ∧ me_same (fun q => a ≤ q ∧ q < a + 6) M M' :=
  e_X7_become2 hab hok 4 zz_fuel 0 M (by decide) (by omega) hR (fun v hv => absurd hv (Nat.not_lt_zero _))
/-! The reference's hours. -/
theorem mr_103 (k2 : Nat → Int32 → zz_M → Option (Unit × zz_M)) {v : Nat} (hv : v < 4) (x : Int32) (a : Nat) (M : zz_M) : b_X9_anHour_103 k2 a (nI v) x 1 (nI v) a M = k2 a (nI (v + 1)) (zz_si M 130 (4 + 4 * v + 1) x) := by
  rw [b_X9_anHour_103, e_X9_setVat hv (k := 1) (x := 1) (by omega) rfl, zz_bd_some, me_wr, nI_1]
theorem e_X9_hour2 (a : Nat) : ∀ (d n v : Nat) (M : zz_M) (V : Nat → Int32), d < n → v + d = 4 → ms_RW M 130 V → ms_okV V →
    ∃ M' : zz_M, b_X9_anHour_2 n a (nI v) M = some ((), M') ∧ ms_RW M' 130 (ms_u (ms_tl d v V) 3 (ms_tl d v V 3 + 1)) ∧ mr_same (fun j => 1 ≤ j ∧ j < 20) M M'
  | 0, n + 1, v, M, V, _, hv, hR, hok => by
    have : v = 4 := by omega
    subst this
    unfold b_X9_anHour_2
    rw [if_pos (by decide), if_pos (by decide), if_pos (by decide), me_wr, show zz_n (3 : Int32) = 3 from rfl, hR 3 (by omega) (by omega)]
    exact ⟨_, rfl, hR.u _, mr_same.si (by omega)⟩
  | d + 1, n + 1, v, M, V, hd, hv, hR, hok => by
    have hv4 : v < 4 := by omega
    have h1 := hR 1 (by omega) (by omega)
    have h2 := hR 2 (by omega) (by omega)
    have hw := hR (4 + 4 * v + 1) (by omega) (by omega)
    have hf := hR (4 + 4 * v + 3) (by omega) (by omega)
    obtain ⟨⟨w0, w1⟩, ⟨d0, d1⟩, hV⟩ := id hok
    obtain ⟨x1, x2, x3, x4, x5⟩ := (hV v hv4).1
    have go : ∀ (M1 : zz_M), ms_RW M1 130 (ms_tend V v) → mr_same (fun j => 1 ≤ j ∧ j < 20) M M1 → ∃ M' : zz_M, b_X9_anHour_2 n a (nI (v + 1)) M1 = some ((), M') ∧ ms_RW M' 130 (ms_u (ms_tl (d + 1) v V) 3 (ms_tl (d + 1) v V 3 + 1)) ∧ mr_same (fun j => 1 ≤ j ∧ j < 20) M M' := by
      intro M1 hR1 hS1
      obtain ⟨M2, hM2, hR2, hS2⟩ := e_X9_hour2 a d n (v + 1) M1 _ (by omega) (by omega) hR1 (ms_tend_ok (by omega) hok)
      exact ⟨M2, hM2, hR2, hS1.tr hS2⟩
    have z1 : zz_n (1 : Int32) = 1 := rfl
    have z2 : zz_n (2 : Int32) = 2 := rfl
    have i1 : zz_in (1 : Int32) 440 = true := rfl
    have i2 : zz_in (2 : Int32) 440 = true := rfl
    unfold b_X9_anHour_2 b_X9_anHour_30
    rw [if_neg (me_ge (y := 4) v 4 rfl (by omega) (by decide)), e_X9_its hv4 (k := 3) (x := 3) (by omega) rfl, zz_bd_some, hf]
    have cold : ¬ (V (4 + 4 * v + 3) = 1 ∧ 0 < V 1) → ∃ M' : zz_M, b_X9_anHour_31 (b_X9_anHour_2 n) a (nI v) 0 M = some ((), M') ∧ ms_RW M' 130 (ms_u (ms_tl (d + 1) v V) 3 (ms_tl (d + 1) v V 3 + 1)) ∧ mr_same (fun j => 1 ≤ j ∧ j < 20) M M' := by
      intro q
      unfold b_X9_anHour_31 b_X9_anHour_61 b_X9_anHour_78
      rw [if_pos rfl, e_X9_its hv4 (k := 1) (x := 1) (by omega) rfl, zz_bd_some, if_pos i2, z2, if_pos i1, if_pos rfl, z1, if_pos i1, me_wr, hw, h2, h1]
      have e0 : ∀ x : Int32, x - 0 = x := by intro x; grind
      rw [e0]
      have hR1 : ms_RW (zz_si M 130 1 (V 1)) 130 V := by
        intro j hj1 hj2
        by_cases e : j = 1
        · rw [me_hit rfl e, e]
        · rw [me_ine (by omega), hR j hj1 hj2]
      have fin : ∀ x : Int32, x = ms_coolb (V (4 + 4 * v + 1)) (V 2) → ∃ M' : zz_M, b_X9_anHour_103 (b_X9_anHour_2 n) a (nI v) x 1 (nI v) a (zz_si M 130 1 (V 1)) = some ((), M') ∧ ms_RW M' 130 (ms_u (ms_tl (d + 1) v V) 3 (ms_tl (d + 1) v V 3 + 1)) ∧ mr_same (fun j => 1 ≤ j ∧ j < 20) M M' := by
        intro x hx
        rw [mr_103 _ hv4]
        refine go _ ?_ ((mr_same.si (by omega)).tr (mr_same.si (by omega)))
        rw [ms_tend, if_neg q, ← hx]
        exact hR1.u _
      by_cases g1 : V (4 + 4 * v + 1) - V 2 ≤ 99
      · rw [if_pos g1]
        by_cases g2 : 0 ≤ V (4 + 4 * v + 1) - V 2
        · rw [if_pos g2]; exact fin _ (by rw [ms_coolb]; grind)
        · rw [if_neg g2]; exact fin _ (by rw [ms_coolb]; grind)
      · exfalso; grind
    by_cases q : V (4 + 4 * v + 3) = 1
    · rw [if_pos q, if_pos i1, z1, h1]
      by_cases p : V 1 ≤ 0
      · rw [if_pos p]; exact cold (by grind)
      · rw [if_neg p]
        unfold b_X9_anHour_31 b_X9_anHour_61 b_X9_anHour_78
        rw [if_neg (by decide), e_X9_its hv4 (k := 1) (x := 1) (by omega) rfl, zz_bd_some, if_pos i1, if_neg (by decide), z1, if_pos i1, me_wr, hw, h1]
        have fin : ∀ x : Int32, x = ms_heat (V (4 + 4 * v + 1)) → ∃ M' : zz_M, b_X9_anHour_103 (b_X9_anHour_2 n) a (nI v) x 1 (nI v) a (zz_si M 130 1 (V 1 - 1)) = some ((), M') ∧ ms_RW M' 130 (ms_u (ms_tl (d + 1) v V) 3 (ms_tl (d + 1) v V 3 + 1)) ∧ mr_same (fun j => 1 ≤ j ∧ j < 20) M M' := by
          intro x hx
          rw [mr_103 _ hv4]
          refine go _ ?_ ((mr_same.si (by omega)).tr (mr_same.si (by omega)))
          rw [ms_tend, if_pos ⟨q, by grind⟩, ← hx]
          exact (hR.u _).u _
        by_cases g1 : V (4 + 4 * v + 1) + 10 ≤ 99
        · rw [if_pos g1, if_pos (by grind)]; exact fin _ (by rw [ms_heat]; grind)
        · rw [if_neg g1]; exact fin _ (by rw [ms_heat]; grind)
    · rw [if_neg q]
      exact cold (fun z => q z.1)
theorem e_X9_anHour {M : zz_M} {V : Nat → Int32} (a : Nat) (hR : ms_RW M 130 V) (hok : ms_okV V) : ∃ M' : zz_M, f_X9_anHour a M = some ((), M') ∧ ms_RW M' 130 (ms_hour V) ∧ mr_same (fun j => 1 ≤ j ∧ j < 20) M M' :=
  e_X9_hour2 a 4 zz_fuel 0 M V (by decide) (by omega) hR hok
theorem e_X9_go2 (a : Nat) {N : Nat} (hN : N ≤ 400) : ∀ (d n i : Nat) (M : zz_M) (V : Nat → Int32), d < n → i + d = N → ms_RW M 130 V → ms_okV V →
    ∃ M' : zz_M, b_X9_go_2 n a (nI N) (nI i) M = some ((), M') ∧ ms_RW M' 130 (ms_pass d V) ∧ mr_same (fun j => 1 ≤ j ∧ j < 20) M M'
  | 0, n + 1, i, M, V, _, hi, hR, hok => by
    have : i = N := by omega
    subst this
    unfold b_X9_go_2
    rw [if_pos (nI_le (Nat.le_refl _) (by omega))]
    exact ⟨M, rfl, hR, mr_same.rf⟩
  | d + 1, n + 1, i, M, V, hd, hi, hR, hok => by
    unfold b_X9_go_2
    obtain ⟨M1, hM1, hR1, hS1⟩ := e_X9_anHour a hR hok
    rw [if_neg (nI_ge (by omega) (by omega)), hM1, zz_bd_some, me_wr, nI_1]
    obtain ⟨M2, hM2, hR2, hS2⟩ := e_X9_go2 a hN d n (i + 1) M1 (ms_hour V) (by omega) (by omega) hR1 (ms_hour_ok hok)
    exact ⟨M2, hM2, hR2, hS1.tr hS2⟩
theorem e_X9_go {M : zz_M} {n : Nat} {V : Nat → Int32} (a : Nat) (hn : n ≤ 400) (hR : ms_RW M 130 V) (hok : ms_okV V) : ∃ M' : zz_M, f_X9_go a (nI n) M = some ((), M') ∧ ms_RW M' 130 (ms_pass n V) ∧ mr_same (fun j => 1 ≤ j ∧ j < 20) M M' :=
  e_X9_go2 a hn n zz_fuel 0 M V (show n < 5000 by omega) (by omega) hR hok
