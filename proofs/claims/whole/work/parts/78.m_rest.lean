/-! Counting, the tape, images. -/
theorem e_X1_layers4 {M : zz_M} {a : Nat} {S : ms_S} (h : ms_SC M a S) (hn : S.2.1 ≤ 10) : ∀ (d n c : Nat), d < n → c + d = S.2.1 → b_X1_layersOfAll_4 n a (ms_sum (fun c => nI (S.2.2 c).2.length) c) (nI c) M = some (ms_sum (fun c => nI (S.2.2 c).2.length) S.2.1, M)
  | 0, n + 1, c, _, hc => by
    have : c = S.2.1 := by omega
    unfold b_X1_layersOfAll_4
    rw [h.2.1, this, if_pos (nI_le (Nat.le_refl _) (by omega))]
  | d + 1, n + 1, c, hd, hc => by
    unfold b_X1_layersOfAll_4
    rw [h.2.1, if_neg (nI_ge (by omega) (by omega)), if_pos (me_in (show c < 10 by omega) (by decide)), me_n (by omega), (h.2.2 c (by omega)).2.1, me_wr, me_wr, nI_1]
    exact e_X1_layers4 h hn d n (c + 1) (by omega) (by omega)
theorem e_X9_count41 {M : zz_M} {S : ms_S} (h : ms_SM M 130 S) (hn : S.2.1 ≤ 10) (a : Nat) : ∀ (d n c : Nat), d < n → c + d = S.2.1 → b_X9_count_41 n a (ms_sum (fun c => nI (S.2.2 c).2.length) c) (nI c) M = some (ms_sum (fun c => nI (S.2.2 c).2.length) S.2.1, M)
  | 0, n + 1, c, _, hc => by
    have : c = S.2.1 := by omega
    unfold b_X9_count_41
    rw [if_pos (show zz_in (0 : Int32) 440 = true from rfl), show zz_n (0 : Int32) = 0 from rfl, h.1, this, if_pos (nI_le (Nat.le_refl _) (by omega))]
  | d + 1, n + 1, c, hd, hc => by
    unfold b_X9_count_41
    rw [if_pos (show zz_in (0 : Int32) 440 = true from rfl), show zz_n (0 : Int32) = 0 from rfl, h.1, if_neg (nI_ge (by omega) (by omega)), e_X9_many (show c < 10 by omega), zz_bd_some, (h.2.2 c (by omega)).2.1, me_wr, me_wr, nI_1]
    exact e_X9_count41 h hn a d n (c + 1) (by omega) (by omega)
def ms_gI (V : Nat → Int32) (v : Nat) (x : Int32) : Int32 := x ||| (V (4 + 4 * v + 3) <<< (nI v &&& (31 : Int32)))
theorem ms_shl0 {v : Nat} (hv : v < 4) (x : Int32) : x ||| ((0 : Int32) <<< (nI v &&& (31 : Int32))) = x := by
  have : (0 : Int32) <<< (nI v &&& (31 : Int32)) = 0 := by
    rcases (show v = 0 ∨ v = 1 ∨ v = 2 ∨ v = 3 by omega) with rfl | rfl | rfl | rfl <;> decide
  rw [this, ms_or0]
theorem e_X7_lit4 {M : zz_M} {a : Nat} {V : Nat → Int32} (hR : ms_RV M a V) (hok : ms_okV V) : ∀ (d n v : Nat) (x : Int32), d < n → v + d = 4 → b_X7_lit_4 n a x (nI v) M = some (ms_fold (ms_gI V) d v x, M)
  | 0, n + 1, v, x, _, hv => by
    have : v = 4 := by omega
    subst this
    unfold b_X7_lit_4
    rw [if_pos (by decide)]
    rfl
  | d + 1, n + 1, v, x, hd, hv => by
    unfold b_X7_lit_4 b_X7_lit_27
    rw [if_neg (me_ge (y := 4) v 4 rfl (by omega) (by decide)), if_pos (me_in (by omega) (by decide)), me_n (by omega), show a + 1 + 1 + v = a + 2 + v by omega, hR.2.2.2 v (by omega) 3 (by omega), me_wr, me_wr, me_wr, nI_1, ms_fold, ms_gI]
    have ih := fun y => e_X7_lit4 hR hok d n (v + 1) y (by omega) (by omega)
    rcases (hok.2.2 v (by omega)).2 with z | z
    · rw [z, if_pos rfl, ms_shl0 (by omega)]
      exact ih x
    · rw [z, if_neg (by decide)]
      exact ih _
theorem e_X9_count74 {M : zz_M} {V : Nat → Int32} (hR : ms_RW M 130 V) (a : Nat) : ∀ (d n v : Nat) (x : Int32), d < n → v + d = 4 → b_X9_count_74 n a x (nI v) M = some (ms_fold (ms_gI V) d v x, M)
  | 0, n + 1, v, x, _, hv => by
    have : v = 4 := by omega
    subst this
    unfold b_X9_count_74
    rw [if_pos (by decide)]
    rfl
  | d + 1, n + 1, v, x, hd, hv => by
    unfold b_X9_count_74
    rw [if_neg (me_ge (y := 4) v 4 rfl (by omega) (by decide)), e_X9_its (show v < 4 by omega) (k := 3) (x := 3) (by omega) rfl, zz_bd_some, hR _ (by omega) (by omega), me_wr, me_wr, nI_1, ms_fold, ms_gI]
    exact e_X9_count74 hR a d n (v + 1) _ (by omega) (by omega)
theorem me_ge' {y : Int32} (n b : Nat) (hy : y = nI b) (h : b < n) (hn : n < 2 ^ 31) : ¬ nI n ≤ y := by rw [hy]; exact nI_ge h hn
theorem op_count {M : zz_M} (hI : mi_Inv M) (x1 : Int32) : zw_eq mi_Inv (f_X8_count 0 x1) (f_X9_count 129 x1) M := by
  obtain ⟨Z, hO, hC, hD⟩ := hI
  by_cases q0 : x1 = 0
  · subst q0
    refine mi_ask (r := nI Z.1.2.1) hO hC hD ?_ ?_
    · simp only [f_X8_count, show ((0 : Int32) = 0) = True from eq_true rfl, zz_bd_some, me_wr, me_t0, me_t1, if_true, if_false, hC.1.2.1]
    · simp only [f_X9_count, show ((0 : Int32) = 0) = True from eq_true rfl, zz_bd_some, me_wr, me_t0, me_t1, if_true, if_false, show zz_in (0 : Int32) 440 = true from rfl, show zz_n (0 : Int32) = 0 from rfl, hD.1.1]
  by_cases q1 : x1 = 1
  · subst q1
    refine mi_ask (r := ms_sum (fun c => nI (Z.1.2.2 c).2.length) Z.1.2.1) hO hC hD ?_ ?_
    · have e : f_X1_layersOfAll 1 M = _ := e_X1_layers4 hC.1 hO.1.2.2.1 Z.1.2.1 zz_fuel 0 (by have := hO.1.2.2.1; show _ < 5000; omega) (by omega)
      simp only [f_X8_count, show ((1 : Int32) = 0) = False from eq_false (by decide), show ((1 : Int32) = 1) = True from eq_true rfl, zz_bd_some, me_wr, me_t0, me_t1, if_true, if_false]
      rw [e, zz_bd_some]
    · simp only [f_X9_count, show ((1 : Int32) = 0) = False from eq_false (by decide), show ((1 : Int32) = 1) = True from eq_true rfl, zz_bd_some, me_wr, me_t0, me_t1, if_true, if_false]
      exact e_X9_count41 hD.1 hO.1.2.2.1 129 Z.1.2.1 zz_fuel 0 (by have := hO.1.2.2.1; show _ < 5000; omega) (by omega)
  by_cases q2 : x1 = 2
  · subst q2
    refine mi_ask (r := nI Z.2.2.1.1) hO hC hD ?_ ?_
    · simp only [f_X8_count, show ((2 : Int32) = 0) = False from eq_false (by decide), show ((2 : Int32) = 1) = False from eq_false (by decide), show ((2 : Int32) = 2) = True from eq_true rfl, zz_bd_some, me_wr, me_t0, me_t1, if_true, if_false, hC.2.2.1.1]
    · simp only [f_X9_count, show ((2 : Int32) = 0) = False from eq_false (by decide), show ((2 : Int32) = 1) = False from eq_false (by decide), show ((2 : Int32) = 2) = True from eq_true rfl, zz_bd_some, me_wr, me_t0, me_t1, if_true, if_false, hD.2.2.1.1]
  by_cases q3 : x1 = 3
  · subst q3
    refine mi_ask (r := ms_fold (ms_gI Z.1.1) 4 0 0) hO hC hD ?_ ?_
    · have e : f_X7_lit (1 + 1) M = _ := e_X7_lit4 hC.1.1 hO.1.1 4 zz_fuel 0 0 (by decide) (by omega)
      simp only [f_X8_count, show ((3 : Int32) = 0) = False from eq_false (by decide), show ((3 : Int32) = 1) = False from eq_false (by decide), show ((3 : Int32) = 2) = False from eq_false (by decide), show ((3 : Int32) = 3) = True from eq_true rfl, zz_bd_some, me_wr, me_t0, me_t1, if_true, if_false]
      rw [e, zz_bd_some]
    · simp only [f_X9_count, show ((3 : Int32) = 0) = False from eq_false (by decide), show ((3 : Int32) = 1) = False from eq_false (by decide), show ((3 : Int32) = 2) = False from eq_false (by decide), show ((3 : Int32) = 3) = True from eq_true rfl, zz_bd_some, me_wr, me_t0, me_t1, if_true, if_false]
      exact e_X9_count74 hD.1.2.1 129 4 zz_fuel 0 0 (by decide) (by omega)
  refine mi_find0 (r := -1000000001) 0 (by decide) hO hC hD ?_ (fun M1 hs _ => ?_)
  · simp only [f_X8_count, q0, q1, q2, q3, zz_bd_some, me_wr, me_t0, me_t1, if_true, if_false, e_fi0]
  · simp only [f_X9_count, q0, q1, q2, q3, zz_bd_some, me_wr, me_t0, me_t1, if_true, if_false, e_fs0]
theorem e_X8_status32 {M : zz_M} {F : Nat → Int32} (h : ms_FC M F) (a : Nat) : ∀ (d n k : Nat), d < n → k + d = 7 → b_X8_status_32 n a (ms_sum F k) (nI k) M = some (ms_sum F 7, M)
  | 0, n + 1, k, _, hk => by
    have : k = 7 := by omega
    subst this
    unfold b_X8_status_32
    rw [if_pos (by decide)]
  | d + 1, n + 1, k, hd, hk => by
    unfold b_X8_status_32
    rw [if_neg (me_ge (y := 7) k 7 rfl (by omega) (by decide)), if_pos (me_in (by omega) (by decide)), me_n (by omega), h k (by omega), me_wr, me_wr, nI_1]
    exact e_X8_status32 h a d n (k + 1) (by omega) (by omega)
theorem e_X9_status21 {M : zz_M} {F : Nat → Int32} {w : Int32} (h : ms_FM M F) (a : Nat) (hw : ¬ 0 ≤ w ∨ ∃ j, j < 7 ∧ w = nI j) : ∀ (d n k : Nat), d < n → k + d = 7 → b_X9_status_21 n a w (ms_sum F k) (nI k) M = some (if 0 ≤ w then F (zz_n w) else ms_sum F 7, M)
  | 0, n + 1, k, _, hk => by
    have : k = 7 := by omega
    subst this
    unfold b_X9_status_21
    rw [if_pos (by decide)]
    rcases hw with q | ⟨j, hj, rfl⟩
    · rw [if_neg q, if_neg q]
    · have q : 0 ≤ nI j := nI_pos' (by omega)
      rw [if_pos q, if_pos q, if_pos q, if_pos (me_in hj (by decide)), me_n (by omega), h j hj]
  | d + 1, n + 1, k, hd, hk => by
    unfold b_X9_status_21
    rw [if_neg (me_ge (y := 7) k 7 rfl (by omega) (by decide)), if_pos (me_in (by omega) (by decide)), me_n (by omega), h k (by omega), me_wr, me_wr, nI_1]
    exact e_X9_status21 h a hw d n (k + 1) (by omega) (by omega)
theorem op_status {M : zz_M} (hI : mi_Inv M) (x1 : Int32) : zw_eq mi_Inv (f_X8_status 0 x1) (f_X9_status 129 x1) M := by
  obtain ⟨Z, hO, hC, hD⟩ := hI
  rcases ms_in_cases x1 (-1) 6 with ⟨h, -⟩ | ⟨h, g1, g2⟩
  · refine mi_find0 (r := -1000000001) 0 (by decide) hO hC hD ?_ (fun M1 hs _ => ?_)
    · simp only [f_X8_status, e_X8_within, h, zz_bd_some, me_wr, me_t0, me_t1, if_true, if_false, e_fi0]
    · simp only [f_X9_status, e_X9_in, h, zz_bd_some, me_wr, me_t0, me_t1, if_true, if_false, e_fs0]
  have hw : ¬ 0 ≤ x1 ∨ ∃ j, j < 7 ∧ x1 = nI j := by
    by_cases q : 0 ≤ x1
    · obtain ⟨j, hj, e⟩ := nI_of2 (M := 6) (n := 6) (x := x1) (by decide) (by rw [Int32.not_lt]; exact q) g2
      exact Or.inr ⟨j, by omega, e⟩
    · exact Or.inl q
  refine mi_ask (r := if 0 ≤ x1 then Z.2.2.2.2 (zz_n x1) else ms_sum Z.2.2.2.2 7) hO hC hD ?_ ?_
  · unfold f_X8_status
    rw [e_X8_within, zz_bd_some, h, if_neg (show ¬ (1 : Int32) = 0 by decide)]
    rcases hw with q | ⟨j, hj, rfl⟩
    · rw [if_pos (show x1 < 0 by grind), if_neg q]
      exact e_X8_status32 hC.2.2.2.2 0 7 zz_fuel 0 (by decide) (by omega)
    · rw [if_neg (nI_pos (show j < 2 ^ 31 by omega)), if_pos (me_in hj (by decide)), me_n (by omega), hC.2.2.2.2 j hj, if_pos (nI_pos' (show j < 2 ^ 31 by omega))]
  · unfold f_X9_status
    rw [e_X9_in, zz_bd_some, h, if_neg (show ¬ (1 : Int32) = 0 by decide)]
    exact e_X9_status21 hD.2.2.2.2 129 hw 7 zz_fuel 0 (by decide) (by omega)
/-- the tape becomes another one -/
theorem mi_C.tape {M M' : zz_M} {Z : ms_Z} {T : ms_T} (h : mi_C M Z) (e : me_same (fun q => q = 88 ∨ q = 89) M M') (hT : ms_TC M' T) : mi_C M' (Z.1, Z.2.1, T, Z.2.2.2) := by
  obtain ⟨h1, h2, h3, h4, h5⟩ := h
  refine ⟨h1.fr (fun q _ _ => e.at (by omega)), ?_, hT, fun s hs => ?_, fun k hk => by rw [e.at (by omega)]; exact h5 k hk⟩
  · revert h2
    show ms_IC M Z.2.1 → ms_IC M' Z.2.1
    cases Z.2.1 with
    | none => intro h2; exact (congrFun (e.at (q := 0) (by omega)) 2).trans h2
    | some S => intro h2; exact ⟨(congrFun (e.at (q := 0) (by omega)) 2).trans h2.1, h2.2.fr (fun q _ _ => e.at (by omega))⟩
  · obtain ⟨g1, g2, g3⟩ := h4 s hs
    exact ⟨by rw [e.at (by omega)]; exact g1, by rw [e.at (by omega)]; exact g2, fun j hj => by rw [e.2]; exact g3 j hj⟩
theorem mi_D.tape {M M' : zz_M} {Z : ms_Z} {T : ms_T} (hO : mi_O Z) (h : mi_D M Z) (e : ∀ q, q ≠ 129 → q ≠ 134 → zz_i M' q = zz_i M q) (e9 : zz_i M' 129 19 = zz_i M 129 19) (ej : zz_j M' = zz_j M) (hT : ms_TM M' T) : mi_D M' (Z.1, Z.2.1, T, Z.2.2.2) := by
  obtain ⟨h1, h2, h3, h4, h5⟩ := h
  refine ⟨h1.fr hO.1.2.2.1 (fun j _ => by rw [e 130 (by omega) (by omega)]), ?_, hT, fun s hs => ?_, fun k hk => by rw [e 131 (by omega) (by omega)]; exact h5 k hk⟩
  · have hI := hO.2.1
    revert h2 hI
    show ms_IM M Z.2.1 → ms_okI Z.2.1 → ms_IM M' Z.2.1
    cases Z.2.1 with
    | none => intro h2 _; exact e9.trans h2
    | some S => intro h2 hI; exact ⟨e9.trans h2.1, h2.2.fr hI.2.2.1 (fun j _ => by rw [e 139 (by omega) (by omega)])⟩
  · obtain ⟨g1, g2, g3⟩ := h4 s hs
    exact ⟨by rw [e 135 (by omega) (by omega)]; exact g1, by rw [e 136 (by omega) (by omega)]; exact g2, fun j hj => by rw [ej]; exact g3 j hj⟩
theorem mi_tape {ρ : Type} {g h : zz_M → Option (ρ × zz_M)} {M M1 M2 : zz_M} {Z : ms_Z} {T : ms_T} {r : ρ} (hO : mi_O Z) (hC : mi_C M Z) (hD : mi_D M Z) (hg : g M = some (r, M1)) (eg : me_same (fun q => q = 88 ∨ q = 89) M M1) (hT1 : ms_TC M1 T) (hh : h M1 = some (r, M2)) (e : ∀ q, q ≠ 129 → q ≠ 134 → zz_i M2 q = zz_i M1 q) (e9 : zz_i M2 129 19 = zz_i M1 129 19) (ej : zz_j M2 = zz_j M1) (hT2 : ms_TM M2 T) (hok : ms_okT T) : zw_eq mi_Inv g h M :=
  ⟨r, M1, M2, hg, hh, (Z.1, Z.2.1, T, Z.2.2.2), ⟨hO.1, hO.2.1, hok, hO.2.2.2⟩, (hC.tape eg hT1).rf (fun q hq => e q (by omega) (by omega)) (fun q _ => by rw [ej]), mi_D.tape hO (hD.cl hO (fun q hq => eg.at (by omega)) (fun q _ => by rw [eg.2])) e e9 ej hT2⟩
theorem op_wipe {M : zz_M} (hI : mi_Inv M) : zw_eq mi_Inv (f_X8_wipe 0) (f_X9_wipe 129) M := by
  obtain ⟨Z, hO, hC, hD⟩ := hI
  have b1 : zz_i M 88 1 = nI Z.2.2.1.1 := hC.2.2.1.1
  have b2 : zz_i (zz_si M 88 1 0) 129 6 = nI Z.2.2.1.1 := by rw [me_ine (by omega)]; exact hD.2.2.1.1
  refine mi_tape (r := nI Z.2.2.1.1) (M1 := zz_si M 88 1 0) (M2 := zz_si (zz_si M 88 1 0) 129 6 0) (T := (0, Z.2.2.1.2)) hO hC hD ?_ (me_same.si (by omega)) ⟨me_hit rfl rfl, fun j hj => absurd hj (Nat.not_lt_zero _)⟩ ?_ (fun q a b => zz_i_si_ne a) (me_ine (by omega)) rfl ⟨me_hit rfl rfl, fun j hj => absurd hj (Nat.not_lt_zero _)⟩ ⟨Nat.zero_le _, hO.2.2.1.2⟩
  · simp only [f_X8_wipe, me_wr, b1]
  · simp only [f_X9_wipe, me_wr, b2]
def ms_push (T : ms_T) (b : Int32) : ms_T := (T.1 + 1, ms_u T.2 T.1 b)
theorem ms_push_ok {T : ms_T} {b : Int32} (h : ms_okT T) (hn : T.1 < 120) (hb : 0 ≤ b ∧ b ≤ 255) : ms_okT (ms_push T b) := by
  refine ⟨hn, fun j => ?_⟩
  show 0 ≤ ms_u T.2 T.1 b j ∧ ms_u T.2 T.1 b j ≤ 255
  by_cases q : j = T.1
  · rw [ms_u_hit q]; exact hb
  · rw [ms_u_ne q]; exact h.2 j
theorem e_X4_append {M : zz_M} {T : ms_T} (b : Int32) (h : ms_TC M T) (hn : T.1 < 120) : ∃ M' : zz_M, f_X4_append 88 b M = some ((), M') ∧ ms_TC M' (ms_push T b) ∧ me_same (fun q => q = 88 ∨ q = 89) M M' := by
  unfold f_X4_append
  rw [h.1, if_neg (me_ge (y := 120) T.1 120 rfl hn (by decide)), if_pos (me_in hn (by decide)), me_n (by omega), me_wr, me_wr, me_ine (by omega), h.1, nI_1]
  refine ⟨_, rfl, ⟨me_hit rfl rfl, fun j hj => ?_⟩, (me_same.si (by omega)).tr (me_same.si (by omega))⟩
  show zz_i _ 89 j = ms_u T.2 T.1 b j
  rw [me_ine (by omega)]
  have hj : j < T.1 + 1 := hj
  by_cases q : j = T.1
  · rw [me_hit rfl q, ms_u_hit q]
  · rw [me_ine (by omega), ms_u_ne q, h.2 j (by omega)]
def ms_fd (bytes : Int32) : Nat → ms_T → ms_T
  | 0, T => T
  | d + 1, T => ms_fd bytes d (ms_push T ((bytes >>> (((8 : Int32) * nI d) &&& (31 : Int32))) &&& (255 : Int32)))
theorem ms_byte (x : Int32) : 0 ≤ x &&& (255 : Int32) ∧ x &&& (255 : Int32) ≤ 255 := by
  obtain ⟨j, hj, e⟩ := pk_andE x (m := 255) 8 (by decide)
  have hj : j < 256 := hj
  rw [e]
  exact ⟨nI_pos' (by omega), nI_le (a := j) (b := 255) (by omega) (by decide)⟩
theorem e_X8_feed41 {bytes : Int32} : ∀ (d n : Nat) (M : zz_M) (T : ms_T) (x : Int32), d < n → x = nI d - 1 → ms_TC M T → T.1 + d ≤ 120 → ms_okT T →
    ∃ M' : zz_M, b_X8_feed_41 n 0 bytes x M = some (nI (T.1 + d), M') ∧ ms_TC M' (ms_fd bytes d T) ∧ ms_okT (ms_fd bytes d T) ∧ me_same (fun q => q = 88 ∨ q = 89) M M'
  | 0, n + 1, M, T, x, _, hx, hT, hn, hok => by
    unfold b_X8_feed_41
    rw [if_pos (by rw [hx]; decide), hT.1]
    exact ⟨M, rfl, hT, hok, me_same.rf⟩
  | d + 1, n + 1, M, T, x, hd, hx, hT, hn, hok => by
    have hx : x = nI d := by rw [hx]; exact nI_pred _
    subst hx
    unfold b_X8_feed_41
    obtain ⟨M1, hM1, hT1, hS1⟩ := e_X4_append ((bytes >>> (((8 : Int32) * nI d) &&& (31 : Int32))) &&& (255 : Int32)) hT (by omega)
    rw [if_neg (nI_pos (by omega)), hM1, zz_bd_some, me_wr]
    have hl : (ms_push T ((bytes >>> (((8 : Int32) * nI d) &&& (31 : Int32))) &&& (255 : Int32))).1 = T.1 + 1 := rfl
    obtain ⟨M2, hM2, hT2, hok2, hS2⟩ := e_X8_feed41 (bytes := bytes) d n M1 _ (nI d + (-1)) (by omega) (by grind) hT1 (by rw [hl]; omega) (ms_push_ok hok (by omega) (ms_byte _))
    refine ⟨M2, ?_, hT2, hok2, hS1.tr hS2⟩
    rw [hM2, hl, show T.1 + 1 + d = T.1 + (d + 1) by omega]
theorem e_X9_feed38 {bytes : Int32} : ∀ (d n : Nat) (M : zz_M) (T : ms_T) (x : Int32), d < n → x = nI d - 1 → ms_TM M T → T.1 + d ≤ 120 →
    ∃ M' : zz_M, b_X9_feed_38 n 129 bytes x M = some (nI (T.1 + d), M') ∧ ms_TM M' (ms_fd bytes d T) ∧ (∀ q, q ≠ 129 → q ≠ 134 → zz_i M' q = zz_i M q) ∧ zz_i M' 129 19 = zz_i M 129 19 ∧ zz_j M' = zz_j M
  | 0, n + 1, M, T, x, _, hx, hT, hn => by
    unfold b_X9_feed_38
    rw [if_pos (by rw [hx]; decide), hT.1]
    exact ⟨M, rfl, hT, fun _ _ _ => rfl, rfl, rfl⟩
  | d + 1, n + 1, M, T, x, hd, hx, hT, hn => by
    have hx : x = nI d := by rw [hx]; exact nI_pred _
    subst hx
    unfold b_X9_feed_38
    rw [if_neg (nI_pos (by omega)), hT.1, if_pos (me_in (show T.1 < 120 by omega) (by decide)), me_n (by omega), me_wr, me_wr, me_wr, me_ine (by omega), hT.1, nI_1]
    have hT1 : ms_TM (zz_si (zz_si M 134 T.1 ((bytes >>> (((8 : Int32) * nI d) &&& (31 : Int32))) &&& (255 : Int32))) 129 6 (nI (T.1 + 1))) (ms_push T ((bytes >>> (((8 : Int32) * nI d) &&& (31 : Int32))) &&& (255 : Int32))) := by
      refine ⟨me_hit rfl rfl, fun j hj => ?_⟩
      show zz_i _ 134 j = ms_u T.2 T.1 _ j
      rw [me_ine (by omega)]
      have hj : j < T.1 + 1 := hj
      by_cases q : j = T.1
      · rw [me_hit rfl q, ms_u_hit q]
      · rw [me_ine (by omega), ms_u_ne q, hT.2 j (by omega)]
    have hl : (ms_push T ((bytes >>> (((8 : Int32) * nI d) &&& (31 : Int32))) &&& (255 : Int32))).1 = T.1 + 1 := rfl
    obtain ⟨M2, hM2, hT2, e2, e9, ej⟩ := e_X9_feed38 (bytes := bytes) d n _ _ (nI d + (-1)) (by omega) (by grind) hT1 (by rw [hl]; omega)
    refine ⟨M2, ?_, hT2, fun q a b => (e2 q a b).trans ((zz_i_si_ne a).trans (zz_i_si_ne b)), e9.trans ((me_ine (by omega)).trans (me_ine (by omega))), ej⟩
    rw [hM2, hl, show T.1 + 1 + d = T.1 + (d + 1) by omega]
theorem op_feed {M : zz_M} (hI : mi_Inv M) (x1 x2 : Int32) : zw_eq mi_Inv (f_X8_feed 0 x1 x2) (f_X9_feed 129 x1 x2) M := by
  obtain ⟨Z, hO, hC, hD⟩ := hI
  rcases ms_in_nat (x := x2) (l := 1) (h := 4) (a := 1) (b := 4) rfl rfl (by omega) (by omega) with h | ⟨h, n, _, hn, rfl⟩
  · refine mi_find0 (r := -1000000001) 0 (by decide) hO hC hD ?_ (fun M1 hs _ => ?_)
    · simp only [f_X8_feed, e_X8_within, h, zz_bd_some, me_wr, me_t0, me_t1, if_true, if_false, e_fi0]
    · simp only [f_X9_feed, e_X9_in, h, zz_bd_some, me_wr, me_t0, me_t1, if_true, if_false, e_fs0]
  have ht := hO.2.2.1.1
  have b1 : zz_i M 88 1 = nI Z.2.2.1.1 := hC.2.2.1.1
  by_cases q : Z.2.2.1.1 + n ≤ 120
  · have q2 : (nI Z.2.2.1.1 + nI n ≤ (120 : Int32)) = True := eq_true (by rw [nI_add]; exact nI_le (a := Z.2.2.1.1 + n) (b := 120) q (by decide))
    obtain ⟨M1, hM1, hT1, hok1, hS1⟩ := e_X8_feed41 (bytes := x1) n zz_fuel M Z.2.2.1 (nI n - 1) (by show n < 5000; omega) rfl hC.2.2.1 q hO.2.2.1
    have hD1 : mi_D M1 Z := hD.cl hO (fun q hq => hS1.at (by omega)) (fun q _ => by rw [hS1.2])
    obtain ⟨M2, hM2, hT2, e2, e9, ej⟩ := e_X9_feed38 (bytes := x1) n zz_fuel M1 Z.2.2.1 (nI n - 1) (by show n < 5000; omega) rfl hD1.2.2.1 q
    refine mi_tape (r := nI (Z.2.2.1.1 + n)) hO hC hD ?_ hS1 hT1 ?_ e2 e9 ej hT2 hok1
    · simp only [f_X8_feed, e_X8_within, h, zz_bd_some, me_wr, me_t0, me_t1, if_true, if_false, b1, q2]
      exact hM1
    · simp only [f_X9_feed, e_X9_in, h, zz_bd_some, me_wr, me_t0, me_t1, if_true, if_false, hD1.2.2.1.1, q2]
      exact hM2
  · have q2 : (nI Z.2.2.1.1 + nI n ≤ (120 : Int32)) = False := eq_false (by rw [nI_add]; exact me_ge' (y := 120) (Z.2.2.1.1 + n) 120 rfl (by omega) (by omega))
    refine mi_find0 (r := -1000000002) 1 (by decide) hO hC hD ?_ (fun M1 hs hd => ?_)
    · simp only [f_X8_feed, e_X8_within, h, zz_bd_some, me_wr, me_t0, me_t1, if_true, if_false, b1, q2, e_fi1]
    · simp only [f_X9_feed, e_X9_in, h, zz_bd_some, me_wr, me_t0, me_t1, if_true, if_false, hd.2.2.1.1, q2, e_fs1]
/-! Images. -/
theorem e_X1_become21 {a b : Nat} {S : ms_S} (hab : a + 28 ≤ b ∨ b + 28 ≤ a) : ∀ (d n c : Nat) (M : zz_M), d < n → c + d = 10 → ms_SC M b S → (∀ u, u < c → ms_KC M (a + 7 + 1 + 2 * u) (S.2.2 u).1 (S.2.2 u).2) →
    ∃ M' : zz_M, b_X1_become_21 n a b (nI c) M = some ((), M') ∧ (∀ u, u < 10 → ms_KC M' (a + 7 + 1 + 2 * u) (S.2.2 u).1 (S.2.2 u).2) ∧ me_same (fun q => a + 8 ≤ q ∧ q < a + 28) M M'
  | 0, n + 1, c, M, _, hc, hB, hA => by
    have : c = 10 := by omega
    subst this
    unfold b_X1_become_21
    rw [if_pos (by decide)]
    exact ⟨M, rfl, hA, me_same.rf⟩
  | d + 1, n + 1, c, M, hd, hc, hB, hA => by
    unfold b_X1_become_21
    obtain ⟨M1, hM1, hK1, hS1⟩ := e_X0_become (a := a + 7 + 1 + 2 * c) (hB.2.2 c (by omega)) (by omega)
    rw [if_neg (me_ge (y := 10) c 10 rfl (by omega) (by decide)), if_pos (me_in (show c < 10 by omega) (by decide)), if_pos (me_in (show c < 10 by omega) (by decide)), me_n (by omega), hM1, zz_bd_some, me_wr, nI_1]
    obtain ⟨M2, hM2, hK2, hS2⟩ := e_X1_become21 hab d n (c + 1) M1 (by omega) (by omega) (hB.fr (fun q _ _ => hS1.at (by omega))) (fun u hu => by
      by_cases q : u = c
      · subst q; exact hK1
      · exact (hA u (by omega)).fr (hS1.at (by omega)) (hS1.at (by omega)))
    exact ⟨M2, hM2, hK2, (hS1.wk (fun q hq => by omega)).tr hS2⟩
theorem e_X1_become {M : zz_M} {a b : Nat} {S : ms_S} (hab : a + 28 ≤ b ∨ b + 28 ≤ a) (hB : ms_SC M b S) (hok : ms_okS S) :
    ∃ M' : zz_M, f_X1_become a b M = some ((), M') ∧ ms_SC M' a S ∧ me_same (fun q => a ≤ q ∧ q < a + 28) M M' := by
  obtain ⟨M1, hM1, hR1, hS1⟩ := e_X7_become (a := a + 1) (by omega) hB.1 hok.1
  have hB1 := hB.fr (fun q _ _ => hS1.at (M' := M1) (q := q) (by omega))
  have e0 : me_same (fun q => q = a) M1 (zz_si M1 a 2 (nI S.2.1)) := me_same.s1
  obtain ⟨M2, hM2, hK2, hS2⟩ := e_X1_become21 (S := S) hab 10 zz_fuel 0 (zz_si M1 a 2 (nI S.2.1)) (by decide) (by omega) (hB1.fr (fun q _ _ => e0.at (by omega))) (fun u hu => absurd hu (Nat.not_lt_zero _))
  refine ⟨M2, ?_, ⟨hR1.fr (fun q _ _ => (hS2.at (by omega)).trans (e0.at (by omega))), ?_, hK2⟩, (hS1.wk (fun q hq => by omega)).tr ((e0.wk (fun q hq => by omega)).tr (hS2.wk (fun q hq => by omega)))⟩
  · unfold f_X1_become
    rw [hM1, zz_bd_some, hB1.2.1, me_wr]
    exact hM2
  · rw [hS2.at (by omega), me_hit rfl rfl]
/-- the image becomes another one -/
theorem mi_C.img {M M' : zz_M} {Z : ms_Z} {K : Option ms_S} (h : mi_C M Z) (e : me_same (fun q => q = 0 ∨ 29 ≤ q ∧ q < 57) M M') (hK : ms_IC M' K) : mi_C M' (Z.1, K, Z.2.2) := by
  obtain ⟨h1, h2, h3, h4, h5⟩ := h
  refine ⟨h1.fr (fun q _ _ => e.at (by omega)), hK, ⟨by rw [e.at (by omega)]; exact h3.1, fun j hj => by rw [e.at (by omega)]; exact h3.2 j hj⟩, fun s hs => ?_, fun k hk => by rw [e.at (by omega)]; exact h5 k hk⟩
  obtain ⟨g1, g2, g3⟩ := h4 s hs
  exact ⟨by rw [e.at (by omega)]; exact g1, by rw [e.at (by omega)]; exact g2, fun j hj => by rw [e.2]; exact g3 j hj⟩
theorem mi_D.img {M M' : zz_M} {Z : ms_Z} {K : Option ms_S} (hO : mi_O Z) (h : mi_D M Z) (e : ∀ q, q ≠ 129 → q ≠ 139 → zz_i M' q = zz_i M q) (e6 : zz_i M' 129 6 = zz_i M 129 6) (ej : zz_j M' = zz_j M) (hK : ms_IM M' K) : mi_D M' (Z.1, K, Z.2.2) := by
  obtain ⟨h1, h2, h3, h4, h5⟩ := h
  refine ⟨h1.fr hO.1.2.2.1 (fun j _ => by rw [e 130 (by omega) (by omega)]), hK, ⟨by rw [e6]; exact h3.1, fun j hj => by rw [e 134 (by omega) (by omega)]; exact h3.2 j hj⟩, fun s hs => ?_, fun k hk => by rw [e 131 (by omega) (by omega)]; exact h5 k hk⟩
  obtain ⟨g1, g2, g3⟩ := h4 s hs
  exact ⟨by rw [e 135 (by omega) (by omega)]; exact g1, by rw [e 136 (by omega) (by omega)]; exact g2, fun j hj => by rw [ej]; exact g3 j hj⟩
theorem mi_img {ρ : Type} {g h : zz_M → Option (ρ × zz_M)} {M M1 M2 : zz_M} {Z : ms_Z} {K : Option ms_S} {r : ρ} (hO : mi_O Z) (hC : mi_C M Z) (hD : mi_D M Z) (hg : g M = some (r, M1)) (eg : me_same (fun q => q = 0 ∨ 29 ≤ q ∧ q < 57) M M1) (hK1 : ms_IC M1 K) (hh : h M1 = some (r, M2)) (e : ∀ q, q ≠ 129 → q ≠ 139 → zz_i M2 q = zz_i M1 q) (e6 : zz_i M2 129 6 = zz_i M1 129 6) (ej : zz_j M2 = zz_j M1) (hK2 : ms_IM M2 K) (hok : ms_okI K) : zw_eq mi_Inv g h M :=
  ⟨r, M1, M2, hg, hh, (Z.1, K, Z.2.2), ⟨hO.1, hok, hO.2.2⟩, (hC.img eg hK1).rf (fun q hq => e q (by omega) (by omega)) (fun q _ => by rw [ej]), mi_D.img hO (hD.cl hO (fun q hq => eg.at (by omega)) (fun q _ => by rw [eg.2])) e e6 ej hK2⟩
theorem op_image {M : zz_M} (hI : mi_Inv M) : zw_eq mi_Inv (f_X8_image 0 ) (f_X9_image 129 ) M := by
  obtain ⟨Z, hO, hC, hD⟩ := hI
  obtain ⟨M1, hM1, hC1, hS1⟩ := e_X1_become (a := 29) (b := 1) (by omega) hC.1 hO.1
  have e0 : me_same (fun q => q = 0) M1 (zz_si M1 0 2 1) := me_same.s1
  have eg : me_same (fun q => q = 0 ∨ 29 ≤ q ∧ q < 57) M (zz_si M1 0 2 1) := (hS1.wk (fun q hq => by omega)).tr (e0.wk (fun q hq => by omega))
  have hD1 : mi_D (zz_si M1 0 2 1) Z := hD.cl hO (fun q hq => eg.at (by omega)) (fun q _ => by rw [eg.2])
  obtain ⟨M2, hM2, hA2, hS2⟩ := e_X9_keep (M := zz_si M1 0 2 1) 129 (a2 := 139) (by decide)
  refine mi_img (r := 1) (M1 := zz_si M1 0 2 1) (M2 := zz_si M2 129 19 1) (K := some Z.1) hO hC hD ?_ eg ⟨me_hit rfl rfl, hC1.fr (fun q _ _ => e0.at (by omega))⟩ ?_ (fun q a b => (zz_i_si_ne a).trans (hS2.at (by omega))) ((me_ine (by omega)).trans (by rw [hS2.at (by omega)])) hS2.2 ⟨me_hit rfl rfl, hD1.1.mv hO.1.2.2.1 (fun j hj => (me_ine (by omega)).trans (hA2 j hj))⟩ hO.1
  · simp only [f_X8_image, hM1, zz_bd_some, me_wr]
  · simp only [f_X9_image, hM2, zz_bd_some, me_wr]
theorem op_undo {M : zz_M} (hI : mi_Inv M) : zw_eq mi_Inv (f_X8_undo 0 ) (f_X9_undo 129 ) M := by
  obtain ⟨Z, hO, hC, hD⟩ := hI
  have hI := hO.2.1
  have hIC := hC.2.1
  cases hz : Z.2.1 with
  | none =>
    rw [hz] at hIC
    have b1 : zz_i M 0 2 = 0 := hIC
    refine mi_find0 (r := -1000000004) 3 (by decide) hO hC hD ?_ (fun M1 hs hd => ?_)
    · simp only [f_X8_undo, b1, zz_bd_some, me_wr, me_t0, me_t1, if_true, if_false, e_fi3]
    · have b2 := hd.2.1
      rw [hz] at b2
      have b2 : zz_i M1 129 19 = 0 := b2
      simp only [f_X9_undo, b2, zz_bd_some, me_wr, me_t0, me_t1, if_true, if_false, e_fs3]
  | some S =>
    rw [hz] at hIC hI
    obtain ⟨b1, b2⟩ := hIC
    obtain ⟨M1, hM1, hC1, hS1⟩ := e_X1_become (a := 1) (b := 29) (by omega) b2 hI
    have hS : me_same mi_cs M M1 := hS1.wk (fun q hq => by unfold mi_cs; omega)
    have hD1 := mi_clD hO hD hS
    have c1 := hD1.2.1
    rw [hz] at c1
    obtain ⟨c1, c2⟩ := c1
    obtain ⟨M2, hM2, hA2, hS2⟩ := e_X9_back (M := M1) 129 (a2 := 139) (by decide)
    have hD2 : ms_SM M2 130 S := c2.mv hI.2.2.1 hA2
    refine mi_shop (M1 := M1) (M2 := M2) (r := nI S.2.1) (S := S) hO hC hD ?_ hS hC1 ?_ (mi_ds.r hS2) hD2 hI
    · simp only [f_X8_undo, b1, zz_bd_some, me_wr, me_t0, me_t1, if_true, if_false, hM1, hC1.2.1]
    · simp only [f_X9_undo, c1, zz_bd_some, me_wr, me_t0, me_t1, if_true, if_false, hM2, show zz_in (0 : Int32) 440 = true from rfl, show zz_n (0 : Int32) = 0 from rfl, hD2.1]
theorem op_tear {M : zz_M} (hI : mi_Inv M) : zw_eq mi_Inv (f_X8_tear 0 ) (f_X9_tear 129 ) M := by
  obtain ⟨Z, hO, hC, hD⟩ := hI
  have e0 : me_same (fun q => q = 0 ∨ 29 ≤ q ∧ q < 57) M (zz_si M 0 2 0) := me_same.si (by omega)
  have hD1 : mi_D (zz_si M 0 2 0) Z := hD.cl hO (fun q hq => e0.at (by omega)) (fun q _ => by rw [e0.2])
  have hIC := hC.2.1
  have hIM := hD1.2.1
  cases hz : Z.2.1 with
  | none =>
    rw [hz] at hIC hIM
    have b1 : zz_i M 0 2 = 0 := hIC
    have b2 : zz_i (zz_si M 0 2 0) 129 19 = 0 := hIM
    refine mi_img (r := 0) (M1 := zz_si M 0 2 0) (M2 := zz_si (zz_si M 0 2 0) 129 19 0) (K := none) hO hC hD ?_ e0 (me_hit rfl rfl) ?_ (fun q a b => zz_i_si_ne a) (me_ine (by omega)) rfl (me_hit rfl rfl) trivial
    · simp only [f_X8_tear, b_X8_tear_12, b1, zz_bd_some, me_wr, me_t0, me_t1, if_true, if_false]
    · simp only [f_X9_tear, b_X9_tear_12, b2, zz_bd_some, me_wr, me_t0, me_t1, if_true, if_false]
  | some S =>
    rw [hz] at hIC hIM
    have b1 : zz_i M 0 2 = 1 := hIC.1
    have b2 : zz_i (zz_si M 0 2 0) 129 19 = 1 := hIM.1
    refine mi_img (r := 1) (M1 := zz_si M 0 2 0) (M2 := zz_si (zz_si M 0 2 0) 129 19 0) (K := none) hO hC hD ?_ e0 (me_hit rfl rfl) ?_ (fun q a b => zz_i_si_ne a) (me_ine (by omega)) rfl (me_hit rfl rfl) trivial
    · simp only [f_X8_tear, b_X8_tear_12, b1, zz_bd_some, me_wr, me_t0, me_t1, if_true, if_false]
    · simp only [f_X9_tear, b_X9_tear_12, b2, zz_bd_some, me_wr, me_t0, me_t1, if_true, if_false]
