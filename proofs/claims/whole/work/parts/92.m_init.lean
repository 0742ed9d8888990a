/-! The start. -/
def mi_V0 : Nat → Int32 := fun j => if j = 1 then 50 else if j = 2 then 2 else if j < 4 then 0 else if j % 4 = 0 then nI ((j - 4) / 4 / 3) else if j % 4 = 1 then 50 else if j % 4 = 2 then 2000 else 0
def mi_S0 : ms_S := (mi_V0, 0, fun _ => (0, []))
def mi_Z0 : ms_Z := (mi_S0, none, (0, fun _ => 0), (fun _ => 0, fun _ => 0, fun _ _ => 0), fun _ => 0)
theorem mi_at {a k : Nat} (h6 : zz_sh a ≠ 6) (h7 : zz_sh a ≠ 7) : zz_i zk_M1 a k = 0 := by
  show (if zz_sh a = 6 then _ else if zz_sh a = 7 then _ else (0 : Int32)) = 0
  rw [if_neg h6, if_neg h7]
theorem e_init112 : ∀ (d n v : Nat) (M : zz_M), d < n → v + d = 4 → ∃ M' : zz_M, b_X9_init_112 n 129 (nI v) M = some ((), M') ∧ (∀ u, v ≤ u → u < 4 → zz_i M' 130 (4 + 4 * u + 0) = nI (u / 3) ∧ zz_i M' 130 (4 + 4 * u + 1) = 50 ∧ zz_i M' 130 (4 + 4 * u + 2) = 2000) ∧ (∀ j, ¬ (4 + 4 * v ≤ j ∧ j < 20 ∧ j % 4 ≠ 3) → zz_i M' 130 j = zz_i M 130 j) ∧ me_same (fun q => q = 130) M M'
  | 0, n + 1, v, M, _, hv => by
    have : v = 4 := by omega
    subst this
    unfold b_X9_init_112
    rw [if_pos (by decide)]
    exact ⟨M, rfl, fun u h1 h2 => by omega, fun _ _ => rfl, me_same.rf⟩
  | d + 1, n + 1, v, M, hd, hv => by
    have hv4 : v < 4 := by omega
    unfold b_X9_init_112
    rw [if_neg (me_ge (y := 4) v 4 rfl (by omega) (by decide)), show nI v / 3 = nI (v / 3) from pk_div (d := 3) (by omega) (by omega) (by omega), e_X9_setVat hv4 (k := 0) (x := 0) (by omega) rfl, zz_bd_some, e_X9_setVat hv4 (k := 1) (x := 1) (by omega) rfl, zz_bd_some, e_X9_setVat hv4 (k := 2) (x := 2) (by omega) rfl, zz_bd_some, me_wr, nI_1]
    obtain ⟨M', a1, a2, a3, a4⟩ := e_init112 d n (v + 1) (zz_si (zz_si (zz_si M 130 (4 + 4 * v + 0) (nI (v / 3))) 130 (4 + 4 * v + 1) 50) 130 (4 + 4 * v + 2) 2000) (by omega) (by omega)
    refine ⟨M', a1, fun u h1 h2 => ?_, fun j hj => ?_, ((me_same.s1.tr me_same.s1).tr me_same.s1).tr a4⟩
    · by_cases q : u = v
      · subst q
        rw [a3 _ (by omega), a3 _ (by omega), a3 _ (by omega)]
        refine ⟨?_, ?_, me_hit rfl rfl⟩
        · rw [me_ine (by omega), me_ine (by omega), me_hit rfl rfl]
        · rw [me_ine (by omega), me_hit rfl rfl]
      · exact a2 u (by omega) h2
    · rw [a3 j (by omega), me_ine (by omega), me_ine (by omega), me_ine (by omega)]
theorem mi_V0_ok : ms_okV mi_V0 := by
  refine ⟨⟨by decide, by decide⟩, ⟨by decide, by decide⟩, fun v hv => ?_⟩
  rcases (show v = 0 ∨ v = 1 ∨ v = 2 ∨ v = 3 by omega) with rfl | rfl | rfl | rfl
  · exact ⟨⟨Or.inl rfl, by decide, by decide, by decide, by decide⟩, Or.inl rfl⟩
  · exact ⟨⟨Or.inl rfl, by decide, by decide, by decide, by decide⟩, Or.inl rfl⟩
  · exact ⟨⟨Or.inl rfl, by decide, by decide, by decide, by decide⟩, Or.inl rfl⟩
  · exact ⟨⟨Or.inr rfl, by decide, by decide, by decide, by decide⟩, Or.inl rfl⟩
theorem mi_O0 : mi_O mi_Z0 := ⟨⟨mi_V0_ok, ⟨by decide, by decide⟩, Nat.zero_le _, fun _ _ => ⟨show (0 : Int32) ≤ 0 by decide, show (0 : Int32) ≤ 5 by decide⟩⟩, trivial, ⟨Nat.zero_le _, fun _ => ⟨show (0 : Int32) ≤ 0 by decide, show (0 : Int32) ≤ 255 by decide⟩⟩, fun _ _ => ⟨Nat.zero_le _, Or.inl rfl⟩⟩
theorem mi_C0 : mi_C zk_M1 mi_Z0 := by
  refine ⟨⟨⟨rfl, rfl, rfl, fun v hv k hk => ?_⟩, rfl, fun c hc => ?_⟩, rfl, ⟨rfl, fun j hj => absurd hj (Nat.not_lt_zero _)⟩, fun s hs => ?_, fun k hk => mi_at (by decide) (by decide)⟩
  · rcases (show v = 0 ∨ v = 1 ∨ v = 2 ∨ v = 3 by omega) with rfl | rfl | rfl | rfl <;> rcases (show k = 0 ∨ k = 1 ∨ k = 2 ∨ k = 3 by omega) with rfl | rfl | rfl | rfl <;> rfl
  · rcases (show c = 0 ∨ c = 1 ∨ c = 2 ∨ c = 3 ∨ c = 4 ∨ c = 5 ∨ c = 6 ∨ c = 7 ∨ c = 8 ∨ c = 9 by omega) with rfl | rfl | rfl | rfl | rfl | rfl | rfl | rfl | rfl | rfl <;> exact ⟨rfl, rfl, rfl, rfl, trivial, ms_Lok.nil⟩
  · rcases (show s = 0 ∨ s = 1 ∨ s = 2 ∨ s = 3 by omega) with rfl | rfl | rfl | rfl <;> exact ⟨rfl, rfl, fun _ _ => rfl⟩
theorem mi_start : ∃ M0 : zz_M, f_X9_init95 zk_M1 = some ((), M0) ∧ mi_Inv M0 := by
  obtain ⟨M0, a1, a2, a3, a4⟩ := e_init112 4 zz_fuel 0 (zz_si (zz_si zk_M1 130 1 50) 130 2 2) (by decide) (by omega)
  have e1 : me_same (fun q => q = 130) zk_M1 M0 := (me_same.s1.tr me_same.s1).tr a4
  have r0 : ∀ k, zz_i zk_M1 130 k = 0 := fun k => mi_at (by decide) (by decide)
  refine ⟨M0, ?_, mi_Z0, mi_O0, mi_C0.rf (fun q hq => e1.at (by omega)) (fun q _ => by rw [e1.2]), ⟨?_, fun j h1 h2 => ?_, fun c hc => absurd hc (Nat.not_lt_zero _)⟩, ?_, ⟨?_, fun j hj => absurd hj (Nat.not_lt_zero _)⟩, fun s hs => ⟨?_, ?_, fun j hj => ?_⟩, fun k hk => ?_⟩
  · unfold f_X9_init95
    rw [if_pos (show zz_in (1 : Int32) 440 = true from rfl), show zz_n (1 : Int32) = 1 from rfl, me_wr, if_pos (show zz_in (2 : Int32) 440 = true from rfl), show zz_n (2 : Int32) = 2 from rfl, me_wr]
    exact a1
  · rw [a3 0 (by omega), me_ine (by omega), me_ine (by omega), r0]; rfl
  · show zz_i M0 130 j = mi_V0 j
    by_cases q4 : j < 4
    · rw [a3 j (by omega)]
      rcases (show j = 1 ∨ j = 2 ∨ j = 3 by omega) with rfl | rfl | rfl
      · rw [me_ine (by omega), me_hit rfl rfl]; rfl
      · rw [me_hit rfl rfl]; rfl
      · rw [me_ine (by omega), me_ine (by omega), r0]; rfl
    · by_cases q3 : j % 4 = 3
      · rw [a3 j (by omega), me_ine (by omega), me_ine (by omega), r0]
        unfold mi_V0
        rw [if_neg (by omega), if_neg (by omega), if_neg (by omega), if_neg (by omega), if_neg (by omega), if_neg (by omega)]
      · obtain ⟨u, k, hu, hk, rfl⟩ : ∃ u k, u < 4 ∧ k < 3 ∧ j = 4 + 4 * u + k := ⟨(j - 4) / 4, j % 4, by omega, by omega, by omega⟩
        obtain ⟨b0, b1, b2⟩ := a2 u (by omega) hu
        unfold mi_V0
        rw [if_neg (by omega), if_neg (by omega), if_neg (by omega)]
        rcases (show k = 0 ∨ k = 1 ∨ k = 2 by omega) with rfl | rfl | rfl
        · rw [b0, if_pos (by omega)]
          congr 1
          omega
        · rw [b1, if_neg (by omega), if_pos (by omega)]
        · rw [b2, if_neg (by omega), if_neg (by omega), if_pos (by omega)]
  · show zz_i M0 129 19 = 0
    rw [e1.at (by decide)]; exact mi_at (by decide) (by decide)
  · rw [e1.at (by decide)]; exact mi_at (by decide) (by decide)
  · rw [e1.at (by decide)]; exact mi_at (by decide) (by decide)
  · rw [e1.at (by decide)]; exact mi_at (by decide) (by decide)
  · rw [e1.2]; rfl
  · rw [e1.at (by decide)]; exact mi_at (by decide) (by decide)
theorem mi_ok : zw_ok mi_Inv := fun _ h => ⟨fun x1 x2 => op_vatOf h x1 x2, fun x1 x2 x3 => op_vat h x1 x2 x3, fun x1 x2 => op_let h x1 x2, fun x1 => op_candle h x1, fun x1 x2 => op_of h x1 x2, fun x1 x2 => op_layer h x1 x2, fun x1 x2 => op_turn h x1 x2, fun x1 x2 => op_as h x1 x2, fun x1 x2 => op_takes h x1 x2, fun x1 x2 => op_dip h x1 x2, fun x1 x2 => op_melt h x1 x2, fun x1 x2 => op_burn h x1 x2, fun x1 => op_hours h x1, fun x1 => op_now h x1, fun x1 x2 => op_warm h x1 x2, fun x1 x2 => op_when h x1 x2, fun x1 x2 x3 => op_takesIn h x1 x2 x3, fun x1 x2 x3 => op_burns h x1 x2 x3, fun x1 x2 => op_fewest h x1 x2, fun x1 x2 x3 => op_ith h x1 x2 x3, fun x1 x2 x3 => op_ways h x1 x2 x3, fun x1 x2 => op_most h x1 x2, fun x1 => op_best h x1, fun x1 x2 x3 => op_kind h x1 x2 x3, fun x1 x2 => op_fires h x1 x2, fun x1 => op_enough h x1, fun x1 x2 => op_feed h x1 x2, op_wipe h, op_text h, fun x1 x2 x3 => op_sheet h x1 x2 x3, fun x1 x2 x3 => op_write h x1 x2 x3, fun x1 x2 x3 x4 x5 => op_copy h x1 x2 x3 x4 x5, fun x1 x2 => op_lays h x1 x2, fun x1 x2 => op_show h x1 x2, fun x1 x2 => op_read h x1 x2, op_image h, op_undo h, op_tear h, fun x1 => op_count h x1, fun x1 => op_status h x1⟩
