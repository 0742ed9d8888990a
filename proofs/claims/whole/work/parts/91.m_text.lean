/-! The reference's text, and the call. -/
def rx_same (M M' : zz_M) : Prop := (∀ q, q ≠ 129 → q ≠ 130 → zz_i M' q = zz_i M q) ∧ zz_i M' 129 19 = zz_i M 129 19 ∧ ∀ q, q ≠ 129 → zz_j M' q = zz_j M q
theorem rx_same.tr {M M1 M2 : zz_M} (h1 : rx_same M M1) (h2 : rx_same M1 M2) : rx_same M M2 := ⟨fun q a b => (h2.1 q a b).trans (h1.1 q a b), h2.2.1.trans h1.2.1, fun q a => (h2.2.2 q a).trans (h1.2.2 q a)⟩
theorem rs_same.rx {M M' : zz_M} (h : rs_same M M') : rx_same M M' := ⟨h.1, h.2.1 19 (by decide) (by decide) (by decide) (by decide) (by decide), h.2.2⟩
/-- the reference behind the text -/
def it_E (M M' : zz_M) (R0 : Nat → Int32) (r : Int32) (o : Sum Nat (Nat × ms_S)) : Prop := rx_same M M' ∧ zz_i M' 129 6 = 0 ∧ Sum.elim (fun f => r = -1 - nI f ∧ ∀ j, j < 440 → zz_i M' 130 j = R0 j) (fun x => r = nI x.1 ∧ ms_SM M' 130 x.2) o
theorem it_E.tr {M M1 M' : zz_M} {R0 : Nat → Int32} {r : Int32} {o : Sum Nat (Nat × ms_S)} (h1 : rx_same M M1) (h : it_E M1 M' R0 r o) : it_E M M' R0 r o := ⟨h1.tr h.1, h.2⟩
theorem rt_endF {M : zz_M} {k : Nat} {R0 : Nat → Int32} {f : Nat} (x : Int32) (h : zz_i M 129 12 = 0 ∨ ¬ zz_i M 129 7 = 0) (h8 : zz_i M 129 8 = nI f) (hA : ∀ j, j < 440 → zz_i M 140 j = R0 j) :
    ∃ (r : Int32) (M' : zz_M), b_X9_text_23 (k + 1) 129 x 0 M = some (r, M') ∧ it_E M M' R0 r (.inl f) := by
  have fin : ∃ (r : Int32) (M' : zz_M), b_X9_text_90 129 x 129 M = some (r, M') ∧ it_E M M' R0 r (.inl f) := by
    have e1 : me_same (fun q => q = 129) M (zz_si (zz_si M 129 12 0) 129 6 0) := me_same.s1.tr me_same.s1
    obtain ⟨M', a1, a2, a3⟩ := e_X9_back (M := zz_si (zz_si M 129 12 0) 129 6 0) 129 (a2 := 140) (by decide)
    unfold b_X9_text_90 b_X9_text_91
    rw [if_pos me_bit0, me_wr, me_wr, me_ine (by omega), me_hit rfl rfl, if_pos (show (0 : Int32) = 0 from rfl), a1, zz_bd_some]
    have e9 : zz_i M' 129 = zz_i (zz_si (zz_si M 129 12 0) 129 6 0) 129 := a3.at (by decide)
    refine ⟨_, M', rfl, ⟨fun q b c => ?_, ?_, fun q b => ?_⟩, ?_, ?_, fun j hj => ?_⟩
    · rw [a3.at c, e1.at b]
    · rw [e9, me_ine (by omega), me_ine (by omega)]
    · rw [a3.2]; rfl
    · rw [e9, me_hit rfl rfl]
    · rw [e9, me_ine (by omega), me_ine (by omega), h8]
    · rw [a2 j hj, e1.at (by decide), hA j hj]
  unfold b_X9_text_23
  rw [if_pos (show (0 : Int32) = 0 from rfl)]
  by_cases q : zz_i M 129 12 = 0
  · rw [if_pos q]; exact fin
  · rw [if_neg q, if_neg (h.resolve_left q)]; exact fin
theorem rt_endT {M : zz_M} {k n : Nat} {R0 : Nat → Int32} {S : ms_S} (h : zz_i M 129 12 = 1) (h7 : zz_i M 129 7 = 0) (hS : ms_SM M 130 S) (hn : S.2.1 ≤ 10) :
    ∃ (r : Int32) (M' : zz_M), b_X9_text_23 (k + 1) 129 (nI n) 0 M = some (r, M') ∧ it_E M M' R0 r (.inr (n, S)) := by
  have e1 : me_same (fun q => q = 129) M (zz_si (zz_si M 129 12 1) 129 6 0) := me_same.s1.tr me_same.s1
  unfold b_X9_text_23 b_X9_text_91
  rw [if_pos (show (0 : Int32) = 0 from rfl), h, if_neg (show ¬ (1 : Int32) = 0 by decide), if_pos h7, if_pos me_bit1, me_wr, me_wr, me_ine (by omega), me_hit rfl rfl, if_neg (show ¬ (1 : Int32) = 0 by decide)]
  exact ⟨_, _, rfl, ⟨fun q b c => e1.at b, by rw [me_ine (by omega), me_ine (by omega)], fun q b => by rw [e1.2]⟩, me_hit rfl rfl, rfl, hS.fr hn (fun j _ => by rw [e1.at (by decide)])⟩
theorem it_item_lok {T : ms_T} {p : Nat} {S : ms_S} (hp : p ≤ T.1) (hok : ms_okS S) (hL : ∀ c, c < 10 → ms_Lok (S.2.2 c).2) : Sum.elim (fun _ => True) (fun x => ∀ c, c < 10 → ms_Lok (x.2.2.2 c).2) (it_item T p S) := by
  have h2 := t_2_b hp
  unfold it_item
  split
  · split
    · intro c hc
      show ms_Lok (ms_uc S.2.2 S.2.1 (it_kn T p, []) c).2
      by_cases q : c = S.2.1
      · rw [ms_uc_hit q]; exact ms_Lok.nil
      · rw [ms_uc_ne q]; exact hL c hc
    · trivial
  · split
    · unfold it_vat
      split
      · unfold it_vat2
        cases it_may T (it_be T (t_2 T (t_2 T p)) 10 11 0 1 (S.1 (4 + 4 * zz_n (t_3 T (t_2 T p)) + 0))).1 12 99 (S.1 (4 + 4 * zz_n (t_3 T (t_2 T p)) + 1)) with
        | inl f => trivial
        | inr w =>
          simp only [Sum.elim_inr]
          cases it_may T w.1 13 99999 (S.1 (4 + 4 * zz_n (t_3 T (t_2 T p)) + 2)) with
          | inl f => trivial
          | inr h => exact hL
      · trivial
    · split
      · unfold it_dip
        split
        · rename_i q
          split
          · split
            · rename_i q3
              obtain ⟨q0, c0, hc0, ec⟩ := it_num_c hok.2.2.1 q
              obtain ⟨q30, v, hv, ev⟩ := it_num_v (N := 3) rfl (by omega) q3
              have hc10 : c0 < 10 := by have := hok.2.2.1; omega
              rw [ec, ev, me_n (show c0 < 2 ^ 31 by omega), me_n (show v < 2 ^ 31 by omega)]
              intro c hc
              show ms_Lok (ms_uc S.2.2 c0 ((S.2.2 c0).1, (ms_dv (S.2.2 c0).1 ((S.2.2 c0).2, S.1) v).1) c).2
              by_cases qc : c = c0
              · rw [ms_uc_hit qc]
                exact (ms_dv_ok (kd := (S.2.2 c0).1) (X := ((S.2.2 c0).2, S.1)) (v := v) (by omega) ⟨hL c0 hc10, hok.1⟩).1
              · rw [ms_uc_ne qc]; exact hL c hc
            · trivial
          · trivial
        · trivial
      · split
        · unfold it_let
          split
          · exact hL
          · trivial
        · split
          · unfold it_let
            split
            · exact hL
            · trivial
          · trivial
theorem rt_text {T : ms_T} {R0 : Nat → Int32} (hok : ms_okT T) : ∀ (d k n p : Nat) (M : zz_M) (S : ms_S), d + 1 < k → T.1 < p + d → p ≤ T.1 → ms_TM M T → zz_i M 129 9 = nI p → zz_i M 129 12 = 1 → ms_SM M 130 S → ms_okS S → (∀ c, c < 10 → ms_Lok (S.2.2 c).2) → (∀ j, j < 440 → zz_i M 140 j = R0 j) →
    ∃ (r : Int32) (M' : zz_M), b_X9_text_23 k 129 (nI n) 1 M = some (r, M') ∧ it_E M M' R0 r (it_text T d n p S)
  | 0, k, n, p, M, S, hk, hd, hp, hT, h9, hg, hS, hokS, hL, hA => by omega
  | d + 1, k, n, p, M, S, hk, hd, hp, hT, h9, hg, hS, hokS, hL, hA => by
    obtain ⟨k, rfl⟩ : ∃ j, k = j + 1 + 1 := ⟨k - 2, by omega⟩
    have hn := hokS.2.2.1
    have hfine := it_item_fine hp hokS hL
    have hLx := it_item_lok hp hokS hL
    obtain ⟨M1, a1, a2, a3⟩ := e_X9_advance hok hp h9 hT
    obtain ⟨M2, b1, b2, b3⟩ := rt_item hok hp (hT.tr a3) a2 (by rw [a3.g, hg]) (hS.ts hn a3.ts) hokS
    have s2 : rs_same M M2 := a3.ts.rs.tr b2
    have hA2 : ∀ j, j < 440 → zz_i M2 140 j = R0 j := fun j hj => by rw [s2.1 140 (by decide) (by decide)]; exact hA j hj
    unfold b_X9_text_23 it_text b_X9_text_66 b_X9_text_67
    rw [if_neg (show ¬ (1 : Int32) = 0 by decide), a1, zz_bd_some, b1, zz_bd_some, me_wr, nI_1]
    cases hit : it_item T p S with
    | inl f =>
      rw [hit] at b3
      obtain ⟨c1, c2⟩ := b3
      rw [if_pos c1]
      obtain ⟨r, M3, d1, d2⟩ := rt_endF (k := k) (nI (n + 1)) (Or.inl c1) c2 hA2
      exact ⟨r, M3, d1, it_E.tr s2.rx d2⟩
    | inr x =>
      rw [hit] at b3 hfine hLx
      obtain ⟨c1, c2, c3⟩ := b3
      obtain ⟨f1, f2, f3⟩ := hfine
      have h0 := t_0_le T x.1
      have g2 := t_2_b f2
      have h2 := t_2_b hp
      have h1 := t_1_b hp
      have g1 := t_1_b f2
      rw [c1, if_neg (show ¬ (1 : Int32) = 0 by decide)]
      simp only [Sum.elim_inr]
      by_cases z0 : t_0 T x.1 = 0
      · have e7 : zz_i M2 129 7 = 0 := (c2.srt 0 (by omega)).mpr z0
        rw [e7, if_neg (show ¬ (0 : Int32) = 3 by decide), if_pos z0]
        obtain ⟨r, M3, d1, d2⟩ := rt_endT (k := k) (n := n + 1) (R0 := R0) c1 e7 c3 f3.2.2.1
        exact ⟨r, M3, d1, it_E.tr s2.rx d2⟩
      · have e7 : ¬ zz_i M2 129 7 = 0 := fun w => z0 ((c2.srt 0 (by omega)).mp w)
        have hlt := t_0_lt z0
        have hlt2 := g2.2.2 hlt
        have endF : ∃ (r : Int32) (M' : zz_M), b_X9_text_23 (k + 1) 129 (nI (n + 1)) 0 M2 = some (r, M') ∧ it_E M M' R0 r (.inl (t_1 T x.1)) := by
          obtain ⟨r, M3, d1, d2⟩ := rt_endF (k := k) (nI (n + 1)) (Or.inr e7) c2.2.1 hA2
          exact ⟨r, M3, d1, it_E.tr s2.rx d2⟩
        rw [if_neg z0]
        by_cases z3 : t_0 T x.1 = 3
        · have e3 : zz_i M2 129 7 = 3 := by rw [c2.1, if_neg (by omega), z3]; rfl
          rw [if_pos e3, if_pos (c2.2.2.2.2.1 z3), if_pos z3]
          obtain ⟨r, M3, d1, d2⟩ := rt_text hok d (k + 1) (n + 1) (t_2 T x.1) M2 x.2 (by omega) (by omega) g2.2.1 (hT.rs s2) c2.2.2.1 c1 c3 f3 hLx hA2
          exact ⟨r, M3, d1, it_E.tr s2.rx d2⟩
        · rw [if_neg z3]
          by_cases z4 : t_0 T x.1 = 4
          · have e3 : zz_i M2 129 7 = 3 := by rw [c2.1, if_pos z4]; rfl
            rw [if_pos e3, if_neg (c2.2.2.2.2.2.1 z4)]
            exact endF
          · have e3 : ¬ zz_i M2 129 7 = 3 := by
              rw [c2.1, if_neg z4]
              intro w
              exact z3 ((nI_eq (a := t_0 T x.1) (b := 3) (by omega) (by omega)).mp w)
            rw [if_neg e3]
            exact endF
theorem mi_D.both {M M' : zz_M} {Z : ms_Z} {S : ms_S} {T : ms_T} (hO : mi_O Z) (h : mi_D M Z) (e : ∀ q, q ≠ 129 → q ≠ 130 → q ≠ 140 → zz_i M' q = zz_i M q) (e9 : zz_i M' 129 19 = zz_i M 129 19) (ej : ∀ q, q ≠ 129 → zz_j M' q = zz_j M q) (hS : ms_SM M' 130 S) (hT : ms_TM M' T) : mi_D M' (S, Z.2.1, T, Z.2.2.2) := by
  obtain ⟨h1, h2, h3, h4, h5⟩ := h
  refine ⟨hS, ?_, hT, fun s hs => ?_, fun k hk => by rw [e 131 (by omega) (by omega) (by omega)]; exact h5 k hk⟩
  · have hI := hO.2.1
    revert h2 hI
    show ms_IM M Z.2.1 → ms_okI Z.2.1 → ms_IM M' Z.2.1
    cases Z.2.1 with
    | none => intro h2 _; exact e9.trans h2
    | some S => intro h2 hI; exact ⟨e9.trans h2.1, h2.2.fr hI.2.2.1 (fun j _ => by rw [e 139 (by omega) (by omega) (by omega)])⟩
  · obtain ⟨g1, g2, g3⟩ := h4 s hs
    exact ⟨by rw [e 135 (by omega) (by omega) (by omega)]; exact g1, by rw [e 136 (by omega) (by omega) (by omega)]; exact g2, fun j hj => by rw [ej 137 (by omega)]; exact g3 j hj⟩
theorem op_text {M : zz_M} (hI : mi_Inv M) : zw_eq mi_Inv (f_X8_text 0) (f_X9_text 129) M := by
  obtain ⟨Z, hO, hC, hD⟩ := hI
  have hn := hO.2.2.1.1
  have hL : ∀ c, c < 10 → ms_Lok (Z.1.2.2 c).2 := fun c hc => (hC.1.2.2 c hc).2.2.2.2.2
  obtain ⟨r, M1, a1, a2, a3⟩ := e_X5_tell hn hC.2.2.1 hC.1 hO.1
  have s1 : me_same mi_cs M M1 := a2.wk (fun q hq => by unfold mi_cs; omega)
  have hSC1 : ms_SC M1 1 Z.1 := hC.1.fr (fun q _ _ => a2.at (by omega))
  have hC1 : mi_C M1 Z := hC.shop s1 hSC1
  -- the reference, on any memory that holds its part
  have hr : ∀ Mx : zz_M, mi_D Mx Z → ∃ (r : Int32) (M' : zz_M), f_X9_text 129 Mx = some (r, M') ∧ (∀ q, q ≠ 129 → q ≠ 130 → q ≠ 140 → zz_i M' q = zz_i Mx q) ∧ zz_i M' 129 19 = zz_i Mx 129 19 ∧ (∀ q, q ≠ 129 → zz_j M' q = zz_j Mx q) ∧ zz_i M' 129 6 = 0 ∧ Sum.elim (fun f => r = -1 - nI f ∧ ms_SM M' 130 Z.1) (fun x => r = nI x.1 ∧ ms_SM M' 130 x.2) (it_text Z.2.2.1 (Z.2.2.1.1 + 1) 0 0 Z.1) := by
    intro Mx hd
    obtain ⟨M2, b1, b2, b3⟩ := e_X9_keep (M := Mx) 129 (a2 := 140) (by decide)
    have e1 : me_same (fun q => q = 129) M2 (zz_si (zz_si M2 129 9 0) 129 12 1) := me_same.s1.tr me_same.s1
    have hTx : ms_TM (zz_si (zz_si M2 129 9 0) 129 12 1) Z.2.2.1 := hd.2.2.1.fr (by rw [me_ine (by omega), me_ine (by omega), b3.at (by decide)]) (by rw [e1.at (by decide), b3.at (by decide)])
    have hSx : ms_SM (zz_si (zz_si M2 129 9 0) 129 12 1) 130 Z.1 := hd.1.fr hO.1.2.2.1 (fun j _ => by rw [e1.at (by decide), b3.at (by decide)])
    obtain ⟨r, M3, c1, c2, c3, c4⟩ := rt_text (R0 := zz_i Mx 130) hO.2.2.1 (Z.2.2.1.1 + 1) zz_fuel 0 0 (zz_si (zz_si M2 129 9 0) 129 12 1) Z.1 (by show _ < 5000; omega) (by omega) (Nat.zero_le _) hTx (by rw [me_ine (by omega), me_hit rfl rfl]; rfl) (me_hit rfl rfl) hSx hO.1 hL (fun j hj => by rw [e1.at (by decide)]; exact b2 j hj)
    refine ⟨r, M3, ?_, fun q x y z => by rw [c2.1 q x y, e1.at x, b3.at z], by rw [c2.2.1, me_ine (by omega), me_ine (by omega), b3.at (by decide)], fun q x => by rw [c2.2.2 q x, e1.2, b3.2], c3, ?_⟩
    · unfold f_X9_text
      rw [b1, zz_bd_some, me_wr, me_wr]
      exact c1
    · cases ho : it_text Z.2.2.1 (Z.2.2.1.1 + 1) 0 0 Z.1 with
      | inl f =>
        rw [ho] at c4
        exact ⟨c4.1, hd.1.fr hO.1.2.2.1 c4.2⟩
      | inr x =>
        rw [ho] at c4
        exact c4
  have done : ∀ (M2 : zz_M) (S : ms_S) (ra : Int32), ms_okS S → f_X8_text 0 M = some (ra, M2) → mi_C M2 (S, Z.2.1, (0, Z.2.2.1.2), Z.2.2.2) → (∀ q, 129 ≤ q → zz_i M2 q = zz_i M q) → zz_j M2 = zz_j M → (∀ rb M3, Sum.elim (fun f => rb = -1 - nI f ∧ ms_SM M3 130 Z.1) (fun x => rb = nI x.1 ∧ ms_SM M3 130 x.2) (it_text Z.2.2.1 (Z.2.2.1.1 + 1) 0 0 Z.1) → rb = ra ∧ ms_SM M3 130 S) → zw_eq mi_Inv (f_X8_text 0) (f_X9_text 129) M := by
    intro M2 S ra hokS hg hC2 e ej hend
    have hD2 : mi_D M2 Z := hD.cl hO e (fun q _ => by rw [ej])
    obtain ⟨rb, M3, b1, b2, b3, b4, b5, b6⟩ := hr M2 hD2
    obtain ⟨g1, g2⟩ := hend rb M3 b6
    refine ⟨ra, M2, M3, hg, by rw [b1, g1], (S, Z.2.1, (0, Z.2.2.1.2), Z.2.2.2), ⟨hokS, hO.2.1, ⟨Nat.zero_le _, hO.2.2.1.2⟩, hO.2.2.2⟩, hC2.rf (fun q hq => b2 q (by omega) (by omega) (by omega)) (fun q hq => b4 q (by omega)), mi_D.both hO hD2 b2 b3 b4 g2 ⟨b5, fun j hj => absurd hj (Nat.not_lt_zero _)⟩⟩
  cases ho : it_text Z.2.2.1 (Z.2.2.1.1 + 1) 0 0 Z.1 with
  | inl f =>
    rw [ho] at a3
    obtain ⟨hf, hra⟩ := a3
    have hneg : r < 0 := by
      have h0 : 0 ≤ nI f := nI_pos' (by omega)
      have h1 : nI f ≤ 120 := nI_le (a := f) (b := 120) (by omega) (by decide)
      rw [hra]
      grind
    have e8 : me_same (fun q => q = 88 ∨ q = 89) M1 (zz_si M1 88 1 0) := me_same.si (by omega)
    refine done (zz_si M1 88 1 0) Z.1 r hO.1 ?_ (hC1.tape e8 ⟨me_hit rfl rfl, fun j hj => absurd hj (Nat.not_lt_zero _)⟩) (fun q hq => by rw [e8.at (by omega), a2.at (by omega)]) a2.2 (fun rb M3 h => ?_)
    · unfold f_X8_text b_X8_text_30
      rw [a1, zz_bd_some, if_pos hneg, me_wr]
    · rw [ho] at h
      exact ⟨by rw [hra]; exact h.1, h.2⟩
  | inr x =>
    rw [ho] at a3
    obtain ⟨hx, hra, hSx, hokx⟩ := a3
    obtain ⟨M2, b1, b2, b3⟩ := e_X1_become (a := 1) (b := 90 + 1) (by omega) hSx hokx
    have hC2 : mi_C M2 (x.2, Z.2) := hC1.shop (b3.wk (fun q hq => by unfold mi_cs; omega)) b2
    have e8 : me_same (fun q => q = 88 ∨ q = 89) M2 (zz_si M2 88 1 0) := me_same.si (by omega)
    refine done (zz_si M2 88 1 0) x.2 r hokx ?_ (hC2.tape e8 ⟨me_hit rfl rfl, fun j hj => absurd hj (Nat.not_lt_zero _)⟩) (fun q hq => by rw [e8.at (by omega), b3.at (by omega), a2.at (by omega)]) (by show zz_j M2 = _; rw [b3.2, a2.2]) (fun rb M3 h => ?_)
    · unfold f_X8_text b_X8_text_30
      rw [a1, zz_bd_some, if_neg (by rw [hra]; exact nI_pos (by omega)), b1, zz_bd_some, me_wr]
    · rw [ho] at h
      exact ⟨by rw [hra]; exact h.1, h.2⟩
