/-! The call fires. -/
def ms_fP (V : Nat → Int32) (w : Int32) (n : Nat) : Int32 := (ms_fold (ms_gS V w n) 16 0 (-1, -1)).1
theorem e_X8_fires {w : Int32} {N : Nat} {V : Nat → Int32} {M : zz_M} (hw : w ≤ 99) (hN : N ≤ 100) (hok : ms_okV V) (hR : ms_RV M (1 + 1) V) :
    ∃ M' : zz_M, b_X8_fires_60 zz_fuel 0 w (nI N) (-1) (-1) 0 M = (if 0 ≤ ms_fP V w N then some (ms_fP V w N, M') else some (-1000000004, ms_fC 3 M')) ∧ me_same (fun q => 57 ≤ q ∧ q < 57 + 6) M M' :=
  e_X8_fires60 hw hN hok 16 zz_fuel 0 M (-1, -1) (by decide) (by omega) hR
theorem e_X9_fires {w : Int32} {N : Nat} {V : Nat → Int32} {R : Nat → Int32} {M : zz_M} (hN : N ≤ 100) (hok : ms_okV V) (hRV : ∀ j, 1 ≤ j → j < 20 → R j = V j) (hA : ∀ j, j < 440 → zz_i M 132 j = R j) (hB : ∀ j, j < 440 → zz_i M 130 j = R j) :
    ∃ M' : zz_M, b_X9_fires_65 zz_fuel 129 w (nI N) (-1) (-1) 0 M = (if 0 ≤ ms_fP V w N then some (ms_fP V w N, M') else some (-1000000004, ms_fM 3 M')) ∧ (∀ j, j < 440 → zz_i M' 130 j = R j) ∧ me_same (fun q => q = 130) M M' :=
  e_X9_fires65 hN hok hRV 16 zz_fuel 0 M (-1, -1) (by decide) (by omega) hA hB
theorem op_fires {M : zz_M} (hI : mi_Inv M) (x1 x2 : Int32) : zw_eq mi_Inv (f_X8_fires 0 x1 x2) (f_X9_fires 129 x1 x2) M := by
  obtain ⟨Z, hO, hC, hD⟩ := hI
  rcases ms_in_cases x1 0 99 with ⟨h, -⟩ | ⟨h, -, g99⟩
  · refine mi_find0 (r := -1000000001) 0 (by decide) hO hC hD ?_ (fun M1 hs _ => ?_)
    · simp only [f_X8_fires, e_X8_within, h, zz_bd_some, me_wr, me_t0, me_t1, if_true, if_false, e_fi0]
    · simp only [f_X9_fires, e_X9_in, h, zz_bd_some, me_wr, me_t0, me_t1, if_true, if_false, e_fs0]
  rcases ms_in_nat (x := x2) (l := 1) (h := 100) (a := 1) (b := 100) rfl rfl (by omega) (by omega) with h2 | ⟨h2, n, _, hn, rfl⟩
  · refine mi_find0 (r := -1000000001) 0 (by decide) hO hC hD ?_ (fun M1 hs _ => ?_)
    · simp only [f_X8_fires, e_X8_within, h, h2, zz_bd_some, me_wr, me_t0, me_t1, if_true, if_false, e_fi0]
    · simp only [f_X9_fires, e_X9_in, h, h2, zz_bd_some, me_wr, me_t0, me_t1, if_true, if_false, e_fs0]
  have i3 : zz_in (3 : Int32) 440 = true := rfl
  have z3 : zz_n (3 : Int32) = 3 := rfl
  by_cases q : Z.1.1 3 + nI n ≤ 9999
  · obtain ⟨M1, hM1, hS1⟩ := e_X8_fires (w := x1) (N := n) g99 (by omega) hO.1.1 hC.1.1
    have hS : me_same mi_cs M M1 := hS1.wk (fun q hq => by unfold mi_cs; omega)
    have hSC := mi_scr hC (fun q h1 h2 => hS1.at (M' := M1) (q := q) (by omega))
    have hh : ∀ Mx : zz_M, mi_D Mx Z → ∃ M' : zz_M, f_X9_fires 129 x1 (nI n) Mx = (if 0 ≤ ms_fP Z.1.1 x1 n then some (ms_fP Z.1.1 x1 n, M') else some (-1000000004, ms_fM 3 M')) ∧ mi_ds Mx M' ∧ ms_SM M' 130 Z.1 := by
      intro Mx hDx
      obtain ⟨M3, hM3, hA3, hS3⟩ := e_X9_keep (M := Mx) 129 (a2 := 132) (by decide)
      have er : zz_i M3 130 = zz_i Mx 130 := hS3.at (by decide)
      obtain ⟨M4, hM4, hB4, hS4⟩ := e_X9_fires (w := x1) (N := n) (R := zz_i Mx 130) (by omega) hO.1.1 hDx.1.2.1 hA3 (fun j _ => by rw [er])
      refine ⟨M4, ?_, (mi_ds.k hS3).tr (mi_ds.r hS4), hDx.1.back hO.1.2.2.1 hB4⟩
      unfold f_X9_fires
      rw [e_X9_in, zz_bd_some, h, if_neg (show ¬ (1 : Int32) = 0 by decide), e_X9_in, zz_bd_some, h2, if_neg (show ¬ (1 : Int32) = 0 by decide), if_pos i3, z3, hDx.1.2.1 3 (by omega) (by omega), if_pos q, hM3, zz_bd_some]
      exact hM4
    have hg : f_X8_fires 0 x1 (nI n) M = (if 0 ≤ ms_fP Z.1.1 x1 n then some (ms_fP Z.1.1 x1 n, M1) else some (-1000000004, ms_fC 3 M1)) := by
      unfold f_X8_fires
      rw [e_X8_within, zz_bd_some, h, if_neg (show ¬ (1 : Int32) = 0 by decide), e_X8_within, zz_bd_some, h2, if_neg (show ¬ (1 : Int32) = 0 by decide), hC.1.1.2.2.1, if_pos q]
      exact hM1
    by_cases p : 0 ≤ ms_fP Z.1.1 x1 n
    · rw [if_pos p] at hg
      obtain ⟨M5, b1, b2, b3⟩ := hh _ (mi_clD hO hD hS)
      rw [if_pos p] at b1
      exact mi_shop hO hC hD hg hS hSC b1 b2 b3 hO.1
    · rw [if_neg p] at hg
      have hD1 : mi_D (ms_fC 3 M1) Z := (mi_clD hO hD hS).cl hO (fun q hq => zz_i_si_ne (by omega)) (fun _ _ => rfl)
      obtain ⟨M5, b1, b2, b3⟩ := hh _ hD1
      rw [if_neg p] at b1
      exact mi_find 3 (by decide) hO hC hD hg hS hSC b1 b2 b3
  · refine mi_find0 (r := -1000000005) 4 (by decide) hO hC hD ?_ (fun M1 hs _ => ?_)
    · simp only [f_X8_fires, e_X8_within, h, h2, zz_bd_some, me_wr, me_t0, me_t1, if_true, if_false, hC.1.1.2.2.1, q, e_fi4]
    · simp only [f_X9_fires, e_X9_in, h, h2, zz_bd_some, me_wr, me_t0, me_t1, if_true, if_false, i3, z3, hs.2.1 3 (by omega) (by omega), q, e_fs4]
