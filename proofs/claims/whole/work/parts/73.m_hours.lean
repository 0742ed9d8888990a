/-! Melting, burning, hours. -/
theorem op_melt {M : zz_M} (hI : mi_Inv M) (x1 x2 : Int32) : zw_eq mi_Inv (f_X8_melt 0 x1 x2) (f_X9_melt 129 x1 x2) M := by
  obtain ⟨Z, hO, hC, hD⟩ := hI
  rcases ms_in_has (x := x1) (n := Z.1.2.1) hO.1.2.2.1 with h | ⟨h, c, hc, rfl⟩
  · refine mi_find0 (r := -1000000001) 0 (by decide) hO hC hD ?_ (fun M1 hs _ => ?_)
    · simp only [f_X8_melt, e_X1_has, hC.1.2.1, h, zz_bd_some, me_wr, me_t0, me_t1, if_true, if_false, e_fi0]
    · simp only [f_X9_melt, e_X9_isCandle, hs.1, h, zz_bd_some, me_wr, me_t0, me_t1, if_true, if_false, e_fs0]
  rcases ms_in_nat (x := x2) (l := 0) (h := 3) (a := 0) (b := 3) rfl rfl (by omega) (by omega) with h2 | ⟨h2, v, _, hv, rfl⟩
  · refine mi_find0 (r := -1000000001) 0 (by decide) hO hC hD ?_ (fun M1 hs _ => ?_)
    · simp only [f_X8_melt, e_X1_has, hC.1.2.1, h, e_X8_isVat, h2, zz_bd_some, me_wr, me_t0, me_t1, if_true, if_false, e_fi0]
    · simp only [f_X9_melt, e_X9_isCandle, hs.1, h, e_X9_isVat, h2, zz_bd_some, me_wr, me_t0, me_t1, if_true, if_false, e_fs0]
  have hc10 : c < 10 := by have := hO.1.2.2.1; omega
  have hK := hC.1.2.2 c hc10
  have hM := hD.1.2.2 c hc
  have hzi : zz_in (nI c) 10 = true := me_in hc10 (by decide)
  have hzn : zz_n (nI c) = c := me_n (by omega)
  have hv4 : v < 4 := by omega
  have hvi : zz_in (nI v) 4 = true := me_in hv4 (by decide)
  have hvn : zz_n (nI v) = v := me_n (by omega)
  obtain ⟨m, hm, hg⟩ := ms_tw hM.2.2.2
  have hl := hM.2.2.2.1
  obtain ⟨w1, w2, w3, w4, w5⟩ := (hO.1.1.2.2 v hv4).1
  have hmay : ms_may 2 (ms_more (Z.1.1 (4 + 4 * v + 2)) (ms_tal (Z.1.2.2 c).2 + ms_wax (Z.1.2.2 c).2)) := by
    have g0 : 0 ≤ nI m := nI_pos' (by omega)
    have g1 : nI m ≤ 4000 := nI_le (a := m) (b := 4000) (by omega) (by decide)
    rw [hg]
    refine ⟨?_, ?_⟩
    · unfold ms_more; split <;> grind
    · show ms_more _ _ ≤ 99999
      unfold ms_more; split <;> grind
  have cv : zz_i M (1 + 1 + 2 + v) 2 = Z.1.1 (4 + 4 * v + 2) := hC.1.1.2.2.2 v hv4 2 (by omega)
  have e0 : me_same (fun q => q = 1 + 1 + 2 + v) M (zz_si M (1 + 1 + 2 + v) 2 (ms_more (Z.1.1 (4 + 4 * v + 2)) (ms_tal (Z.1.2.2 c).2 + ms_wax (Z.1.2.2 c).2))) := me_same.s1
  obtain ⟨M1, hM1, hK1, hS1⟩ := e_X0_strip (M := zz_si M (1 + 1 + 2 + v) 2 (ms_more (Z.1.1 (4 + 4 * v + 2)) (ms_tal (Z.1.2.2 c).2 + ms_wax (Z.1.2.2 c).2))) (a := 1 + 7 + 1 + 2 * c)
  rw [me_ine (by omega), hK.1] at hK1
  have hR1 : ms_RV M1 (1 + 1) (ms_u Z.1.1 (4 + 4 * v + 2) (ms_more (Z.1.1 (4 + 4 * v + 2)) (ms_tal (Z.1.2.2 c).2 + ms_wax (Z.1.2.2 c).2))) := (hC.1.1.u _ hv4 (by omega)).fr (fun q _ _ => hS1.at (by omega))
  have hSS : me_same (fun q => q = 1 + 7 + 1 + 2 * c ∨ q = 1 + 7 + 1 + 2 * c + 1 ∨ 1 + 1 ≤ q ∧ q < 1 + 7) M M1 := (e0.wk (fun q hq => by omega)).tr (hS1.wk (fun q hq => by omega))
  have hD1 : ms_SM M1 130 Z.1 := hD.1.fr hO.1.2.2.1 (fun j _ => by rw [hSS.at (by omega)])
  have hM' := hD1.2.2 c hc
  have e2 : mr_same (fun j => 20 + 42 * c ≤ j ∧ j < 20 + 42 * c + 42 ∨ 1 ≤ j ∧ j < 20) M1 (zz_si (zz_si M1 130 (20 + 42 * c + 1) 0) 130 (4 + 4 * v + 2) (ms_more (Z.1.1 (4 + 4 * v + 2)) (ms_tal (Z.1.2.2 c).2 + ms_wax (Z.1.2.2 c).2))) := (mr_same.si (by omega)).tr (mr_same.si (by omega))
  refine mi_shop (r := ms_tal (Z.1.2.2 c).2 + ms_wax (Z.1.2.2 c).2) (M1 := M1) (M2 := zz_si (zz_si M1 130 (20 + 42 * c + 1) 0) 130 (4 + 4 * v + 2) (ms_more (Z.1.1 (4 + 4 * v + 2)) (ms_tal (Z.1.2.2 c).2 + ms_wax (Z.1.2.2 c).2))) (S := (ms_u Z.1.1 (4 + 4 * v + 2) (ms_more (Z.1.1 (4 + 4 * v + 2)) (ms_tal (Z.1.2.2 c).2 + ms_wax (Z.1.2.2 c).2)), Z.1.2.1, ms_uc Z.1.2.2 c ((Z.1.2.2 c).1, []))) hO hC hD ?_ (hSS.wk (fun q hq => by unfold mi_cs; omega)) (hC.1.cand hc10 hR1 hK1 hSS) ?_ (mi_ds.mr e2) ?_ (hO.1.cand (hO.1.1.set hv4 (by omega) hmay) (by rw [ms_u_ne (by omega)]; exact hO.1.2.1) (hO.1.2.2.2 c hc10))
  · simp only [f_X8_melt, e_X1_has, hC.1.2.1, h, e_X8_isVat, h2, hzi, hzn, hvi, hvn, zz_bd_some, me_wr, me_t0, me_t1, if_true, if_false, e_X0_grams hK, ms_v4, f_X6_pourIn, cv]
    have hM1' := hM1
    unfold ms_more at hM1'
    rw [hM1', zz_bd_some]
  · simp only [f_X9_melt, e_X9_isCandle, hD1.1, h, e_X9_isVat, h2, zz_bd_some, me_wr, me_t0, me_t1, if_true, if_false, (e_X9_grams hc10 hM' 129).1, e_X9_at c 1 (show (1 : Int32) = nI 1 from rfl), me_zin (show 20 + 42 * c + 1 < 440 by omega) (show 440 < 2 ^ 31 by decide), me_n (show 20 + 42 * c + 1 < 2 ^ 31 by omega), e_X9_holdsMore hv4]
    rw [me_ine (by omega), hD1.2.1 (4 + 4 * v + 2) (by omega) (by omega)]
  · refine hD1.cand ?_ ⟨?_, ?_, trivial, ms_Lok.nil⟩ e2
    · have q0 : ms_RW (zz_si M1 130 (20 + 42 * c + 1) 0) 130 Z.1.1 := hD1.2.1.row' (fun j _ _ => me_ine (by omega))
      exact q0.u _
    · rw [me_ine (by omega), me_ine (by omega)]; exact hM'.1
    · rw [me_ine (by omega), me_hit rfl rfl]; rfl
theorem ms_lose_0 : ∀ {L : List Int32} {g : Int32}, g ≤ 0 → ms_lose L g = (L, 0)
  | [], _, _ => rfl
  | t :: L, g, h => by rw [ms_lose, if_pos h]
theorem ms_thn_0 (t : Int32) : ms_thn t (nI 0) = t := by
  have : nI 0 = 0 := nI_0
  unfold ms_thn
  split <;> grind
theorem e_X9_burn31 {c : Nat} {kd : Int32} (hc : c < 10) (a : Nat) : ∀ (m n : Nat) (L : List Int32) (M : zz_M), m / 3 + 2 < n → m ≤ 9999 → ms_KM M 130 (20 + 42 * c) kd L →
    ∃ M' : zz_M, b_X9_burn_31 n a (nI c) (nI m) 1 M = some (ms_tal (ms_burn L m) + ms_wax (ms_burn L m), M') ∧ ms_KM M' 130 (20 + 42 * c) kd (ms_burn L m) ∧ mr_same (fun j => 20 + 42 * c < j ∧ j < 20 + 42 * c + 42) M M' := by
  intro m
  induction m using Nat.strongRecOn with
  | _ m ih =>
  intro n L M hn hm hK
  obtain ⟨n, rfl⟩ : ∃ j, n = j + 2 := ⟨n - 2, by omega⟩
  cases L with
  | nil =>
    have k1 : zz_i M 130 (20 + 42 * c + 1) = 0 := hK.2.1
    unfold b_X9_burn_31 b_X9_burn_99
    rw [if_neg (by decide), e_X9_many hc, zz_bd_some, k1, if_pos (show (0 : Int32) ≤ 0 by decide), (e_X9_grams hc hK a).1, zz_bd_some]
    exact ⟨M, rfl, hK, mr_same.rf⟩
  | cons t L =>
    obtain ⟨k0, k1, ⟨kt, kL⟩, kok⟩ := id hK
    rw [List.length_cons] at k1
    have hlen : L.length < 40 := kok.1
    obtain ⟨s, s0, s1, hs⟩ := kok.head.nat
    have hzn : zz_n (ms_abs t) = s := by rw [hs]; exact me_n (by omega)
    have core : ∀ e : Nat, 3 ≤ e → e ≤ 5 → e = (if 0 ≤ t then 3 else 5) → ∃ M' : zz_M, b_X9_burn_64 (b_X9_burn_31 (n + 1)) a (nI c) (nI m) (nI e) M = some (ms_tal (ms_burn (t :: L) m) + ms_wax (ms_burn (t :: L) m), M') ∧ ms_KM M' 130 (20 + 42 * c) kd (ms_burn (t :: L) m) ∧ mr_same (fun j => 20 + 42 * c < j ∧ j < 20 + 42 * c + 42) M M' := by
      intro e e3 e5 he
      have hb : ms_burn (t :: L) m = if m / e < s then ms_thn t (nI (m / e)) :: L else ms_burn L (m - s * e) := by rw [ms_burn, hzn, ← he]
      unfold b_X9_burn_64 b_X9_burn_77 b_X9_burn_96
      by_cases hme : m < e
      · rw [if_pos (nI_lt hme (by omega)), if_pos rfl]
        have h0 : m / e = 0 := Nat.div_eq_of_lt hme
        rw [h0, if_pos s0, ms_thn_0] at hb
        rw [hb]
        unfold b_X9_burn_31 b_X9_burn_99
        rw [if_pos rfl, (e_X9_grams hc hK a).1, zz_bd_some]
        exact ⟨M, rfl, hK, mr_same.rf⟩
      · rw [if_neg (nI_nlt (by omega) (by omega)), if_neg (show ¬ (1 : Int32) = 0 by decide)]
        obtain ⟨M1, hM1, hK1, hS1⟩ := e_X9_off hc hK (g := 1) (by decide) (by decide) a
        have e1 : ∀ r : Int32, r = 1 → nI m - nI e * r = nI (m - e) := by
          intro r hr
          rw [hr, ← pk_sub (by omega)]
          grind
        have hd : m / e = (m - e) / e + 1 := by
          rw [Nat.div_eq m e, if_pos ⟨by omega, by omega⟩]
        have hd3 : (m - e) / 3 + 2 < n + 1 := by omega
        by_cases h1 : s = 1
        · have hlo : ms_lose (t :: L) 1 = (L, 1) := by
            have ha : ms_abs t = 1 := by rw [hs, h1]; rfl
            rw [ms_lose, if_neg (by decide), if_pos (by rw [ha]; decide), ha, ms_lose_0 (by decide)]
            rfl
          rw [hlo] at hM1 hK1
          rw [hM1, zz_bd_some, me_wr, e1 1 rfl]
          obtain ⟨M2, hM2, hK2, hS2⟩ := ih (m - e) (by omega) (n + 1) L M1 hd3 (by omega) hK1
          rw [if_neg (Nat.not_lt.mpr (by rw [hd, h1]; exact Nat.le_add_left _ _))] at hb
          rw [h1, Nat.one_mul] at hb
          rw [hb]
          exact ⟨M2, hM2, hK2, hS1.tr hS2⟩
        · have hna : ¬ ms_abs t ≤ 1 := by rw [hs]; exact nI_ge (a := 1) (b := s) (by omega) (by omega)
          have hlo : ms_lose (t :: L) 1 = (ms_thn t 1 :: L, 1) := by rw [ms_lose, if_neg (by decide), if_neg hna]
          rw [hlo] at hM1 hK1
          rw [hM1, zz_bd_some, me_wr, e1 1 rfl]
          obtain ⟨M2, hM2, hK2, hS2⟩ := ih (m - e) (by omega) (n + 1) (ms_thn t 1 :: L) M1 hd3 (by omega) hK1
          have hsg : (0 ≤ ms_thn t 1 ↔ 0 ≤ t) ∧ ms_abs (ms_thn t 1) = ms_abs t - 1 := by
            have hb1 := kok.head
            unfold ms_lok at hb1
            unfold ms_thn
            unfold ms_abs at hna ⊢
            split <;> grind
          have hb2 : ms_burn (ms_thn t 1 :: L) (m - e) = ms_burn (t :: L) m := by
            have hz2 : zz_n (ms_abs (ms_thn t 1)) = s - 1 := by
              rw [hsg.2, hs, show (1 : Int32) = nI 1 from rfl, pk_sub (by omega)]
              exact me_n (by omega)
            have he2 : e = (if 0 ≤ ms_thn t 1 then 3 else 5) := by
              rw [he]
              by_cases q : 0 ≤ t
              · rw [if_pos q, if_pos (hsg.1.mpr q)]
              · rw [if_neg q, if_neg (fun z => q (hsg.1.mp z))]
            rw [hb, ms_burn, hz2, ← he2]
            by_cases hlt : m / e < s
            · rw [if_pos hlt, if_pos (by omega)]
              congr 1
              rw [hd, nI_succ]
              by_cases q : 0 ≤ t
              · have q2 := hsg.1.mpr q
                rw [ms_thn, if_pos q2, ms_thn, if_pos q, ms_thn, if_pos q]; grind
              · have q2 : ¬ 0 ≤ ms_thn t 1 := fun z => q (hsg.1.mp z)
                rw [ms_thn, if_neg q2, ms_thn, if_neg q, ms_thn, if_neg q]; grind
            · rw [if_neg hlt, if_neg (by omega)]
              congr 1
              rw [Nat.sub_mul, Nat.one_mul]
              have : e ≤ s * e := Nat.le_mul_of_pos_left e s0
              omega
          rw [hb2] at hM2 hK2
          exact ⟨M2, hM2, hK2, hS1.tr hS2⟩
    unfold b_X9_burn_31
    rw [if_neg (by decide), e_X9_many hc, zz_bd_some, k1, if_neg (nI_nle (by omega) (by omega)), e_X9_many hc, zz_bd_some, k1, e_X9_layerOf hc (i := L.length) hlen (nI_pred _), zz_bd_some, kt]
    by_cases q : 0 ≤ t
    · rw [if_pos q]
      exact core 3 (by omega) (by omega) (by rw [if_pos q])
    · rw [if_neg q]
      exact core 5 (by omega) (by omega) (by rw [if_neg q])
theorem op_burn {M : zz_M} (hI : mi_Inv M) (x1 x2 : Int32) : zw_eq mi_Inv (f_X8_burn 0 x1 x2) (f_X9_burn 129 x1 x2) M := by
  obtain ⟨Z, hO, hC, hD⟩ := hI
  rcases ms_in_has (x := x1) (n := Z.1.2.1) hO.1.2.2.1 with h | ⟨h, c, hc, rfl⟩
  · refine mi_find0 (r := -1000000001) 0 (by decide) hO hC hD ?_ (fun M1 hs _ => ?_)
    · simp only [f_X8_burn, e_X1_has, hC.1.2.1, h, zz_bd_some, me_wr, me_t0, me_t1, if_true, if_false, e_fi0]
    · simp only [f_X9_burn, e_X9_isCandle, hs.1, h, zz_bd_some, me_wr, me_t0, me_t1, if_true, if_false, e_fs0]
  rcases ms_in_nat (x := x2) (l := 1) (h := 9999) (a := 1) (b := 9999) rfl rfl (by omega) (by omega) with h2 | ⟨h2, m, _, hm, rfl⟩
  · refine mi_find0 (r := -1000000001) 0 (by decide) hO hC hD ?_ (fun M1 hs _ => ?_)
    · simp only [f_X8_burn, e_X1_has, hC.1.2.1, h, e_X8_within, h2, zz_bd_some, me_wr, me_t0, me_t1, if_true, if_false, e_fi0]
    · simp only [f_X9_burn, e_X9_isCandle, hs.1, h, e_X9_in, h2, zz_bd_some, me_wr, me_t0, me_t1, if_true, if_false, e_fs0]
  have hc10 : c < 10 := by have := hO.1.2.2.1; omega
  have hK := hC.1.2.2 c hc10
  have hM := hD.1.2.2 c hc
  have hzi : zz_in (nI c) 10 = true := me_in hc10 (by decide)
  have hzn : zz_n (nI c) = c := me_n (by omega)
  obtain ⟨M1, hM1, hK1, hS1⟩ := e_X0_burn hK hm
  have hD1 : ms_SM M1 130 Z.1 := hD.1.fr hO.1.2.2.1 (fun j _ => by rw [hS1.at (by omega)])
  obtain ⟨M2, hM2, hK2, hS2⟩ := e_X9_burn31 hc10 129 m zz_fuel (Z.1.2.2 c).2 M1 (by show _ < 5000; omega) hm (hD1.2.2 c hc)
  refine mi_shop (M1 := M1) (M2 := M2) (r := ms_tal (ms_burn (Z.1.2.2 c).2 m) + ms_wax (ms_burn (Z.1.2.2 c).2 m)) (S := (Z.1.1, Z.1.2.1, ms_uc Z.1.2.2 c ((Z.1.2.2 c).1, ms_burn (Z.1.2.2 c).2 m))) hO hC hD ?_ (hS1.wk (fun q hq => by unfold mi_cs; omega)) (hC.1.cand hc10 (hC.1.1.fr (fun q _ _ => hS1.at (by omega))) hK1 (hS1.wk (fun q hq => by omega))) ?_ (mi_ds.mr hS2) (hD1.cand (hD1.2.1.row' (fun j _ _ => hS2.at (by omega))) hK2 (hS2.wk (fun j hj => by omega))) (hO.1.cand hO.1.1 hO.1.2.1 (hO.1.2.2.2 c hc10))
  · simp only [f_X8_burn, e_X1_has, hC.1.2.1, h, e_X8_within, h2, hzi, hzn, zz_bd_some, me_wr, me_t0, me_t1, if_true, if_false, hM1, e_X0_grams hK1]
  · simp only [f_X9_burn, e_X9_isCandle, hD1.1, h, e_X9_in, h2, zz_bd_some, me_wr, me_t0, me_t1, if_true, if_false]
    exact hM2
theorem op_hours {M : zz_M} (hI : mi_Inv M) (x1 : Int32) : zw_eq mi_Inv (f_X8_hours 0 x1) (f_X9_hours 129 x1) M := by
  obtain ⟨Z, hO, hC, hD⟩ := hI
  rcases ms_in_nat (x := x1) (l := 1) (h := 200) (a := 1) (b := 200) rfl rfl (by omega) (by omega) with h | ⟨h, n, _, hn, rfl⟩
  · refine mi_find0 (r := -1000000001) 0 (by decide) hO hC hD ?_ (fun M1 hs _ => ?_)
    · simp only [f_X8_hours, e_X8_within, h, zz_bd_some, me_wr, me_t0, me_t1, if_true, if_false, e_fi0]
    · simp only [f_X9_hours, e_X9_in, h, zz_bd_some, me_wr, me_t0, me_t1, if_true, if_false, e_fs0]
  have i3 : zz_in (3 : Int32) 440 = true := rfl
  have z3 : zz_n (3 : Int32) = 3 := rfl
  have i1 : zz_in (1 : Int32) 440 = true := rfl
  have z1 : zz_n (1 : Int32) = 1 := rfl
  by_cases q : Z.1.1 3 + nI n ≤ 9999
  · obtain ⟨M1, hM1, hR1, hS1⟩ := e_X7_pass (n := n) (by omega) hC.1.1 hO.1.1
    have hD1 : ms_SM M1 130 Z.1 := hD.1.fr hO.1.2.2.1 (fun j _ => by rw [hS1.at (by omega)])
    obtain ⟨M2, hM2, hR2, hS2⟩ := e_X9_go (n := n) 129 (by omega) hD1.2.1 hO.1.1
    have hb : 0 ≤ ms_pass n Z.1.1 3 ∧ ms_pass n Z.1.1 3 ≤ 9999 := by
      rw [ms_pass_3]
      have g0 : 0 ≤ nI n := nI_pos' (by omega)
      have g1 : nI n ≤ 200 := nI_le (a := n) (b := 200) (by omega) (by decide)
      have := hO.1.2.1
      exact ⟨by grind, q⟩
    refine mi_shop (M1 := M1) (M2 := M2) (r := Z.1.1 1 - ms_pass n Z.1.1 1) (S := (ms_pass n Z.1.1, Z.1.2)) hO hC hD ?_ (hS1.wk (fun q hq => by unfold mi_cs; omega)) (hC.1.vats hR1 (hS1.wk (fun q hq => by omega))) ?_ (mi_ds.mr hS2) (hD1.vats hR2 hS2) (hO.1.vats (ms_pass_ok hO.1.1) hb)
    · simp only [f_X8_hours, e_X8_within, h, zz_bd_some, me_wr, me_t0, me_t1, if_true, if_false, hC.1.1.2.2.1, q, hC.1.1.1, hM1, hR1.1]
    · simp only [f_X9_hours, e_X9_in, h, zz_bd_some, me_wr, me_t0, me_t1, if_true, if_false, i3, z3, i1, z1, hD1.2.1 3 (by omega) (by omega), hD1.2.1 1 (by omega) (by omega), q, hM2, hR2 1 (by omega) (by omega)]
  · refine mi_find0 (r := -1000000005) 4 (by decide) hO hC hD ?_ (fun M1 hs _ => ?_)
    · simp only [f_X8_hours, e_X8_within, h, zz_bd_some, me_wr, me_t0, me_t1, if_true, if_false, hC.1.1.2.2.1, q, e_fi4]
    · simp only [f_X9_hours, e_X9_in, h, zz_bd_some, me_wr, me_t0, me_t1, if_true, if_false, i3, z3, hs.2.1 3 (by omega) (by omega), q, e_fs4]
theorem e_X7_grams4 {M : zz_M} {a : Nat} {V : Nat → Int32} (hR : ms_RV M a V) : ∀ (d n v : Nat), d < n → v + d = 4 → b_X7_grams_4 n a (ms_sum (fun v => V (4 + 4 * v + 2)) v) (nI v) M = some (ms_sum (fun v => V (4 + 4 * v + 2)) 4, M)
  | 0, n + 1, v, _, hv => by
    have : v = 4 := by omega
    subst this
    unfold b_X7_grams_4
    rw [if_pos (by decide)]
  | d + 1, n + 1, v, hd, hv => by
    unfold b_X7_grams_4
    rw [if_neg (me_ge (y := 4) v 4 rfl (by omega) (by decide)), if_pos (me_in (by omega) (by decide)), me_n (by omega), show a + 1 + 1 + v = a + 2 + v by omega, hR.2.2.2 v (by omega) 2 (by omega), me_wr, me_wr, nI_1]
    exact e_X7_grams4 hR d n (v + 1) (by omega) (by omega)
theorem e_X9_now59 {M : zz_M} {V : Nat → Int32} (hR : ms_RW M 130 V) (a : Nat) : ∀ (d n v : Nat), d < n → v + d = 4 → b_X9_now_59 n a (ms_sum (fun v => V (4 + 4 * v + 2)) v) (nI v) M = some (ms_sum (fun v => V (4 + 4 * v + 2)) 4, M)
  | 0, n + 1, v, _, hv => by
    have : v = 4 := by omega
    subst this
    unfold b_X9_now_59
    rw [if_pos (by decide)]
  | d + 1, n + 1, v, hd, hv => by
    unfold b_X9_now_59
    rw [if_neg (me_ge (y := 4) v 4 rfl (by omega) (by decide)), e_X9_its (show v < 4 by omega) (k := 2) (x := 2) (by omega) rfl, zz_bd_some, hR _ (by omega) (by omega), me_wr, me_wr, nI_1]
    exact e_X9_now59 hR a d n (v + 1) (by omega) (by omega)
def ms_tg (S : ms_S) (c : Nat) : Int32 := ms_tal (S.2.2 c).2 + ms_wax (S.2.2 c).2
theorem e_X1_grams4 {M : zz_M} {a : Nat} {S : ms_S} (h : ms_SC M a S) (hn : S.2.1 ≤ 10) : ∀ (d n c : Nat), d < n → c + d = S.2.1 → b_X1_candleGrams_4 n a (ms_sum (ms_tg S) c) (nI c) M = some (ms_sum (ms_tg S) S.2.1, M)
  | 0, n + 1, c, _, hc => by
    have : c = S.2.1 := by omega
    unfold b_X1_candleGrams_4
    rw [h.2.1, this, if_pos (nI_le (Nat.le_refl _) (by omega))]
  | d + 1, n + 1, c, hd, hc => by
    unfold b_X1_candleGrams_4
    rw [h.2.1, if_neg (nI_ge (by omega) (by omega)), if_pos (me_in (show c < 10 by omega) (by decide)), me_n (by omega), e_X0_grams (h.2.2 c (by omega)), zz_bd_some, me_wr, me_wr, nI_1]
    exact e_X1_grams4 h hn d n (c + 1) (by omega) (by omega)
theorem e_X9_now83 {M : zz_M} {S : ms_S} (h : ms_SM M 130 S) (hn : S.2.1 ≤ 10) (a : Nat) : ∀ (d n c : Nat), d < n → c + d = S.2.1 → b_X9_now_83 n a (ms_sum (ms_tg S) c) (nI c) M = some (ms_sum (ms_tg S) S.2.1, M)
  | 0, n + 1, c, _, hc => by
    have : c = S.2.1 := by omega
    unfold b_X9_now_83
    rw [if_pos (show zz_in (0 : Int32) 440 = true from rfl), show zz_n (0 : Int32) = 0 from rfl, h.1, this, if_pos (nI_le (Nat.le_refl _) (by omega))]
  | d + 1, n + 1, c, hd, hc => by
    unfold b_X9_now_83
    rw [if_pos (show zz_in (0 : Int32) 440 = true from rfl), show zz_n (0 : Int32) = 0 from rfl, h.1, if_neg (nI_ge (by omega) (by omega)), (e_X9_grams (show c < 10 by omega) (h.2.2 c (by omega)) a).1, zz_bd_some, me_wr, me_wr, nI_1]
    exact e_X9_now83 h hn a d n (c + 1) (by omega) (by omega)
theorem op_now {M : zz_M} (hI : mi_Inv M) (x1 : Int32) : zw_eq mi_Inv (f_X8_now 0 x1) (f_X9_now 129 x1) M := by
  obtain ⟨Z, hO, hC, hD⟩ := hI
  by_cases q0 : x1 = 0
  · subst q0
    refine mi_ask (r := Z.1.1 3) hO hC hD ?_ ?_
    · simp only [f_X8_now, show ((0 : Int32) = 0) = True from eq_true rfl, zz_bd_some, me_wr, me_t0, me_t1, if_true, if_false, hC.1.1.2.2.1]
    · simp only [f_X9_now, show ((0 : Int32) = 0) = True from eq_true rfl, zz_bd_some, me_wr, me_t0, me_t1, if_true, if_false, show zz_in (3 : Int32) 440 = true from rfl, show zz_n (3 : Int32) = 3 from rfl, hD.1.2.1 3 (by omega) (by omega)]
  by_cases q1 : x1 = 1
  · subst q1
    refine mi_ask (r := Z.1.1 1) hO hC hD ?_ ?_
    · simp only [f_X8_now, show ((1 : Int32) = 0) = False from eq_false (by decide), show ((1 : Int32) = 1) = True from eq_true rfl, zz_bd_some, me_wr, me_t0, me_t1, if_true, if_false, hC.1.1.1]
    · simp only [f_X9_now, show ((1 : Int32) = 0) = False from eq_false (by decide), show ((1 : Int32) = 1) = True from eq_true rfl, zz_bd_some, me_wr, me_t0, me_t1, if_true, if_false, show zz_in (1 : Int32) 440 = true from rfl, show zz_n (1 : Int32) = 1 from rfl, hD.1.2.1 1 (by omega) (by omega)]
  by_cases q2 : x1 = 2
  · subst q2
    refine mi_ask (r := Z.1.1 2) hO hC hD ?_ ?_
    · simp only [f_X8_now, show ((2 : Int32) = 0) = False from eq_false (by decide), show ((2 : Int32) = 1) = False from eq_false (by decide), show ((2 : Int32) = 2) = True from eq_true rfl, zz_bd_some, me_wr, me_t0, me_t1, if_true, if_false, hC.1.1.2.1]
    · simp only [f_X9_now, show ((2 : Int32) = 0) = False from eq_false (by decide), show ((2 : Int32) = 1) = False from eq_false (by decide), show ((2 : Int32) = 2) = True from eq_true rfl, zz_bd_some, me_wr, me_t0, me_t1, if_true, if_false, show zz_in (2 : Int32) 440 = true from rfl, show zz_n (2 : Int32) = 2 from rfl, hD.1.2.1 2 (by omega) (by omega)]
  by_cases q3 : x1 = 3
  · subst q3
    refine mi_ask (r := ms_sum (fun v => Z.1.1 (4 + 4 * v + 2)) 4) hO hC hD ?_ ?_
    · simp only [f_X8_now, show ((3 : Int32) = 0) = False from eq_false (by decide), show ((3 : Int32) = 1) = False from eq_false (by decide), show ((3 : Int32) = 2) = False from eq_false (by decide), show ((3 : Int32) = 3) = True from eq_true rfl, zz_bd_some, me_wr, me_t0, me_t1, if_true, if_false]
      have e := e_X7_grams4 hC.1.1 4 zz_fuel 0 (by decide) (by omega)
      have e : f_X7_grams (1 + 1) M = _ := e
      rw [e, zz_bd_some]
    · simp only [f_X9_now, show ((3 : Int32) = 0) = False from eq_false (by decide), show ((3 : Int32) = 1) = False from eq_false (by decide), show ((3 : Int32) = 2) = False from eq_false (by decide), show ((3 : Int32) = 3) = True from eq_true rfl, zz_bd_some, me_wr, me_t0, me_t1, if_true, if_false]
      exact e_X9_now59 hD.1.2.1 129 4 zz_fuel 0 (by decide) (by omega)
  by_cases q4 : x1 = 4
  · subst q4
    refine mi_ask (r := ms_sum (ms_tg Z.1) Z.1.2.1) hO hC hD ?_ ?_
    · simp only [f_X8_now, show ((4 : Int32) = 0) = False from eq_false (by decide), show ((4 : Int32) = 1) = False from eq_false (by decide), show ((4 : Int32) = 2) = False from eq_false (by decide), show ((4 : Int32) = 3) = False from eq_false (by decide), show ((4 : Int32) = 4) = True from eq_true rfl, zz_bd_some, me_wr, me_t0, me_t1, if_true, if_false]
      have e := e_X1_grams4 hC.1 hO.1.2.2.1 Z.1.2.1 zz_fuel 0 (by have := hO.1.2.2.1; show _ < 5000; omega) (by omega)
      have e : f_X1_candleGrams 1 M = _ := e
      rw [e, zz_bd_some]
    · simp only [f_X9_now, show ((4 : Int32) = 0) = False from eq_false (by decide), show ((4 : Int32) = 1) = False from eq_false (by decide), show ((4 : Int32) = 2) = False from eq_false (by decide), show ((4 : Int32) = 3) = False from eq_false (by decide), show ((4 : Int32) = 4) = True from eq_true rfl, zz_bd_some, me_wr, me_t0, me_t1, if_true, if_false]
      exact e_X9_now83 hD.1 hO.1.2.2.1 129 Z.1.2.1 zz_fuel 0 (by have := hO.1.2.2.1; show _ < 5000; omega) (by omega)
  refine mi_find0 (r := -1000000001) 0 (by decide) hO hC hD ?_ (fun M1 hs _ => ?_)
  · simp only [f_X8_now, q0, q1, q2, q3, q4, zz_bd_some, me_wr, me_t0, me_t1, if_true, if_false, e_fi0]
  · simp only [f_X9_now, q0, q1, q2, q3, q4, zz_bd_some, me_wr, me_t0, me_t1, if_true, if_false, e_fs0]
