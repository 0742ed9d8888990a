/-! Rows of dips. -/
theorem mr_shift {k : Nat} (hk : k < 6) {n : Nat} (hn : n < 2 ^ 31) : ((nI n) >>> (((2 : Int32) * nI k) &&& (31 : Int32))) &&& (3 : Int32) = nI (n / 4 ^ k % 4) := by
  have go : ∀ s : Int32, (s.toBitVec.smod 32).toNat = 2 * k → (nI n >>> s) &&& (3 : Int32) = nI (n / 4 ^ k % 4) := by
    intro s hs
    rw [pk_shrN hn s (2 * k) hs, pk_andN (Nat.lt_of_le_of_lt (Nat.div_le_self _ _) (by omega)) 2 rfl, Nat.pow_mul]
  rcases (show k = 0 ∨ k = 1 ∨ k = 2 ∨ k = 3 ∨ k = 4 ∨ k = 5 by omega) with rfl | rfl | rfl | rfl | rfl | rfl <;> exact go _ (by decide)
theorem mr_lim {n : Nat} (hn : n ≤ 6) : (1 : Int32) <<< (((2 : Int32) * nI n) &&& (31 : Int32)) = nI (4 ^ n) := by
  rcases (show n = 0 ∨ n = 1 ∨ n = 2 ∨ n = 3 ∨ n = 4 ∨ n = 5 ∨ n = 6 by omega) with rfl | rfl | rfl | rfl | rfl | rfl | rfl <;> decide
theorem mr_4 {n : Nat} (hn : n ≤ 6) : 1 ≤ 4 ^ n ∧ 4 ^ n ≤ 4096 := by
  rcases (show n = 0 ∨ n = 1 ∨ n = 2 ∨ n = 3 ∨ n = 4 ∨ n = 5 ∨ n = 6 by omega) with rfl | rfl | rfl | rfl | rfl | rfl | rfl <;> decide
abbrev ms_X : Type := List Int32 × (Nat → Int32)
def ms_dv (kd : Int32) (X : ms_X) (v : Nat) : ms_X :=
  ((ms_dip kd X.1 (X.2 (4 + 4 * v)) (X.2 (4 + 4 * v + 1)) (X.2 (4 + 4 * v + 2))).1, ms_u (ms_u X.2 (4 + 4 * v + 1) (ms_dip kd X.1 (X.2 (4 + 4 * v)) (X.2 (4 + 4 * v + 1)) (X.2 (4 + 4 * v + 2))).2.1) (4 + 4 * v + 2) (ms_dip kd X.1 (X.2 (4 + 4 * v)) (X.2 (4 + 4 * v + 1)) (X.2 (4 + 4 * v + 2))).2.2)
def ms_okX (X : ms_X) : Prop := ms_Lok X.1 ∧ ms_okV X.2
theorem ms_dv_ok {kd : Int32} {X : ms_X} {v : Nat} (hv : v < 4) (h : ms_okX X) : ms_okX (ms_dv kd X v) := by
  obtain ⟨hL, hV⟩ := h
  obtain ⟨h1, h2⟩ := ms_dip_ok (kd := kd) hL (hV.2.2 v hv).1
  refine ⟨h1, ?_, ?_, fun u hu => ?_⟩
  · unfold ms_dv; simp only; rw [ms_u_ne (by omega), ms_u_ne (by omega)]; exact hV.1
  · unfold ms_dv; simp only; rw [ms_u_ne (by omega), ms_u_ne (by omega)]; exact hV.2.1
  · unfold ms_dv
    simp only
    have e := hV.2.2 u hu
    by_cases q : u = v
    · subst q
      rw [ms_u_ne (q := 4 + 4 * u) (by omega), ms_u_ne (q := 4 + 4 * u) (by omega), ms_u_ne (q := 4 + 4 * u + 1) (by omega), ms_u_hit (q := 4 + 4 * u + 1) rfl, ms_u_hit (q := 4 + 4 * u + 2) rfl, ms_u_ne (q := 4 + 4 * u + 3) (by omega), ms_u_ne (q := 4 + 4 * u + 3) (by omega)]
      exact ⟨h2, e.2⟩
    · rw [ms_u_ne (q := 4 + 4 * u) (by omega), ms_u_ne (q := 4 + 4 * u) (by omega), ms_u_ne (q := 4 + 4 * u + 1) (by omega), ms_u_ne (q := 4 + 4 * u + 1) (by omega), ms_u_ne (q := 4 + 4 * u + 2) (by omega), ms_u_ne (q := 4 + 4 * u + 2) (by omega), ms_u_ne (q := 4 + 4 * u + 3) (by omega), ms_u_ne (q := 4 + 4 * u + 3) (by omega)]
      exact e
def ms_row (kd : Int32) : Nat → Nat → ms_X → ms_X
  | 0, _, X => X
  | n + 1, code, X => ms_row kd n code (ms_dv kd X (code / 4 ^ n % 4))
theorem ms_row_ok {kd : Int32} : ∀ {n code : Nat} {X : ms_X}, ms_okX X → ms_okX (ms_row kd n code X)
  | 0, _, _, h => h
  | n + 1, _, _, h => ms_row_ok (n := n) (ms_dv_ok (Nat.mod_lt _ (by decide)) h)
theorem ms_row_mod (kd : Int32) : ∀ (n v i : Nat) (X : ms_X), ms_row kd n (v * 4 ^ n + i) X = ms_row kd n i X
  | 0, _, _, _ => rfl
  | n + 1, v, i, X => by
    have e : (v * 4 ^ (n + 1) + i) / 4 ^ n % 4 = i / 4 ^ n % 4 := by
      rw [Nat.pow_succ, show v * (4 ^ n * 4) + i = i + 4 ^ n * (v * 4) by rw [Nat.mul_comm (4 ^ n) 4, ← Nat.mul_assoc, Nat.mul_comm (v * 4) (4 ^ n), Nat.add_comm], Nat.add_mul_div_left _ _ (Nat.pow_pos (by decide)), Nat.add_mul_mod_self_right]
    have e2 : v * 4 ^ (n + 1) + i = (v * 4) * 4 ^ n + i := by rw [Nat.pow_succ, Nat.mul_assoc, Nat.mul_comm 4]
    unfold ms_row
    rw [e, e2, ms_row_mod kd n (v * 4) i, ]
theorem ms_row_step (kd : Int32) {n v i : Nat} (hv : v < 4) (hi : i < 4 ^ n) (X : ms_X) : ms_row kd (n + 1) (v * 4 ^ n + i) X = ms_row kd n i (ms_dv kd X v) := by
  have e : (v * 4 ^ n + i) / 4 ^ n % 4 = v := by
    rw [Nat.mul_comm, Nat.mul_add_div (Nat.pow_pos (by decide)), Nat.div_eq_of_lt hi, Nat.add_zero, Nat.mod_eq_of_lt hv]
  rw [ms_row, e, ms_row_mod]
/-- a dip of the reference over the picture -/
theorem e_X9_dv {M : zz_M} {c v : Nat} {kd : Int32} {X : ms_X} (hc : c < 10) (hv : v < 4) (hK : ms_KM M 130 (20 + 42 * c) kd X.1) (hR : ms_RW M 130 X.2) (hok : ms_okX X) (a : Nat) :
    ∃ M' : zz_M, f_X9_dips a (nI c) (nI v) M = some ((), M') ∧ ms_KM M' 130 (20 + 42 * c) kd (ms_dv kd X v).1 ∧ ms_RW M' 130 (ms_dv kd X v).2 ∧ mr_same (fun j => 20 + 42 * c < j ∧ j < 20 + 42 * c + 42 ∨ 4 ≤ j ∧ j < 20) M M' := by
  obtain ⟨M', h, hK', h1, h2, hS⟩ := e_X9_dips hc hv hK (hR _ (by omega) (by omega)) (hR _ (by omega) (by omega)) (hR _ (by omega) (by omega)) (hok.2.2.2 v hv).1 a
  refine ⟨M', h, hK', fun j hj1 hj2 => ?_, hS.wk (fun j hj => by omega)⟩
  unfold ms_dv
  simp only
  by_cases e1 : j = 4 + 4 * v + 2
  · rw [ms_u_hit e1, e1, h2]
  · rw [ms_u_ne e1]
    by_cases e2 : j = 4 + 4 * v + 1
    · rw [ms_u_hit e2, e2, h1]
    · rw [ms_u_ne e2, hS.at (by omega), hR j hj1 hj2]
theorem e_X9_dipRow5 {c : Nat} {kd : Int32} {code : Nat} (hc : c < 10) (hcode : code < 2 ^ 31) (a : Nat) : ∀ (d n : Nat) (M : zz_M) (X : ms_X) (x4 : Int32), d < n → d ≤ 6 → x4 = nI d - 1 → ms_KM M 130 (20 + 42 * c) kd X.1 → ms_RW M 130 X.2 → ms_okX X →
    ∃ M' : zz_M, b_X9_dipRow_5 n a (nI c) (nI code) x4 M = some ((), M') ∧ ms_KM M' 130 (20 + 42 * c) kd (ms_row kd d code X).1 ∧ ms_RW M' 130 (ms_row kd d code X).2 ∧ mr_same (fun j => 20 + 42 * c < j ∧ j < 20 + 42 * c + 42 ∨ 4 ≤ j ∧ j < 20) M M'
  | 0, n + 1, M, X, x4, _, _, hx, hK, hR, hok => by
    unfold b_X9_dipRow_5
    rw [if_pos (by rw [hx]; decide)]
    exact ⟨M, rfl, hK, hR, mr_same.rf⟩
  | d + 1, n + 1, M, X, x4, hd, h6, hx, hK, hR, hok => by
    have hx : x4 = nI d := by rw [hx]; exact nI_pred _
    subst hx
    unfold b_X9_dipRow_5
    obtain ⟨M1, hM1, hK1, hR1, hS1⟩ := e_X9_dv (v := code / 4 ^ d % 4) hc (Nat.mod_lt _ (by decide)) hK hR hok a
    rw [if_neg (nI_pos (by omega)), mr_shift (by omega) hcode, hM1, zz_bd_some, me_wr]
    obtain ⟨M2, hM2, hK2, hR2, hS2⟩ := e_X9_dipRow5 hc hcode a d n M1 _ (nI d + (-1)) (by omega) (by omega) (by grind) hK1 hR1 (ms_dv_ok (Nat.mod_lt _ (by decide)) hok)
    exact ⟨M2, hM2, hK2, hR2, hS1.tr hS2⟩
theorem e_X9_dipRow {M : zz_M} {c : Nat} {kd : Int32} {code n : Nat} {X : ms_X} (hc : c < 10) (hcode : code < 2 ^ 31) (hn : n ≤ 6) (hK : ms_KM M 130 (20 + 42 * c) kd X.1) (hR : ms_RW M 130 X.2) (hok : ms_okX X) (a : Nat) :
    ∃ M' : zz_M, f_X9_dipRow a (nI c) (nI code) (nI n) M = some ((), M') ∧ ms_KM M' 130 (20 + 42 * c) kd (ms_row kd n code X).1 ∧ ms_RW M' 130 (ms_row kd n code X).2 ∧ mr_same (fun j => 20 + 42 * c < j ∧ j < 20 + 42 * c + 42 ∨ 4 ≤ j ∧ j < 20) M M' := by
  rw [f_X9_dipRow, me_wr]
  exact e_X9_dipRow5 hc hcode a n zz_fuel M X _ (show n < 5000 by omega) hn rfl hK hR hok
/-- a try of a row, and what was is put back -/
theorem e_X9_try {M : zz_M} {c : Nat} {kd : Int32} {code n : Nat} {X : ms_X} {R : Nat → Int32} (hc : c < 10) (hcode : code < 2 ^ 31) (hn : n ≤ 6) (hk : mr_kept c R M) (hRR : zz_i M 130 = R) (hK : ms_KM M 130 (20 + 42 * c) kd X.1) (hR : ms_RW M 130 X.2) (hok : ms_okX X) (a : Nat) :
    ∃ M1 : zz_M, f_X9_dipRow a (nI c) (nI code) (nI n) M = some ((), M1) ∧ ms_KM M1 130 (20 + 42 * c) kd (ms_row kd n code X).1 ∧ me_same (fun q => q = 130) M M1 ∧ ∃ M2 : zz_M, f_X9_putsBack a (nI c) M1 = some ((), M2) ∧ zz_i M2 130 = R ∧ mr_kept c R M2 ∧ me_same (fun q => q = 130) M M2 := by
  obtain ⟨M1, hM1, hK1, hR1, hS1⟩ := e_X9_dipRow hc hcode hn hK hR hok a
  obtain ⟨M2, hM2, hR2, hS2⟩ := e_X9_putsBack hc a (hk.fr (hS1.ot (by decide))) (fun j hj => by rw [hS1.at (by omega), hRR])
  exact ⟨M1, hM1, hK1, hS1.1, M2, hM2, hR2, (hk.fr (hS1.ot (by decide))).fr (hS2.at (by decide)), hS1.1.tr hS2⟩
theorem ms_KM.row {M M' : zz_M} {o : Nat} {kd : Int32} {L : List Int32} (h : ms_KM M 130 o kd L) (e : zz_i M' 130 = zz_i M 130) : ms_KM M' 130 o kd L := h.fr (fun j _ _ => by rw [e])
theorem ms_RW.row {M M' : zz_M} {V : Nat → Int32} (h : ms_RW M 130 V) (e : zz_i M' 130 = zz_i M 130) : ms_RW M' 130 V := fun j h1 h2 => by rw [e, h j h1 h2]
/-- over numbers from i on, d of them -/
def ms_fold {α : Type} (g : Nat → α → α) : Nat → Nat → α → α
  | 0, _, x => x
  | d + 1, i, x => ms_fold g d (i + 1) (g i x)
theorem ms_fold_add {α : Type} (g : Nat → α → α) : ∀ (d e i : Nat) (x : α), ms_fold g (d + e) i x = ms_fold g e (i + d) (ms_fold g d i x)
  | 0, e, i, x => by rw [Nat.zero_add]; rfl
  | d + 1, e, i, x => by rw [show d + 1 + e = (d + e) + 1 by omega, ms_fold, ms_fold, ms_fold_add g d e, show i + 1 + d = i + (d + 1) by omega]
def ms_gC (f : Nat → Int32) (w : Int32) (i : Nat) (x : Int32) : Int32 := x + (if f i = w then 1 else 0)
def ms_gL (f : Nat → Int32) (i : Nat) (x : Int32) : Int32 := if f i ≤ x then x else f i
def ms_gF (f : Nat → Int32) (w : Int32) (i : Nat) (x : Int32) : Int32 := if 0 ≤ x then x else if f i < w then x else nI i
theorem ms_gF_stop {f : Nat → Int32} {w : Int32} : ∀ (d i : Nat) {x : Int32}, 0 ≤ x → ms_fold (ms_gF f w) d i x = x
  | 0, _, _, _ => rfl
  | d + 1, i, x, h => by
    have e : ms_gF f w i x = x := by rw [ms_gF, if_pos h]
    rw [ms_fold, e, ms_gF_stop d (i + 1) h]
/-- the reference's first row by which it burns so long -/
theorem e_X9_first6 {c : Nat} {kd w : Int32} {N : Nat} {X : ms_X} {R : Nat → Int32} (hc : c < 10) (hN : N ≤ 6) (hok : ms_okX X) (a : Nat) : ∀ (d n i : Nat) (M : zz_M) (x : Int32), d < n → i + d = 4 ^ N → mr_kept c R M → zz_i M 130 = R → ms_KM M 130 (20 + 42 * c) kd X.1 → ms_RW M 130 X.2 → x = -1 ∨ 0 ≤ x →
    ∃ M' : zz_M, b_X9_firstRow_6 n a (nI c) w (nI N) x (nI i) M = some (ms_fold (ms_gF (fun i => ms_mn kd (ms_row kd N i X).1) w) d i x, M') ∧ mr_kept c R M' ∧ zz_i M' 130 = R ∧ me_same (fun q => q = 130) M M'
  | 0, n + 1, i, M, x, _, hi, hk, hRR, hK, hR, hx => by
    have h4 := mr_4 hN
    unfold b_X9_firstRow_6
    rw [mr_lim hN, if_pos (nI_le (by omega) (by omega))]
    exact ⟨M, rfl, hk, hRR, me_same.rf⟩
  | d + 1, n + 1, i, M, x, hd, hi, hk, hRR, hK, hR, hx => by
    have h4 := mr_4 hN
    unfold b_X9_firstRow_6
    rw [mr_lim hN, if_neg (nI_ge (by omega) (by omega))]
    rcases hx with hx | hx
    · obtain ⟨M1, hM1, hK1, hS1, M2, hM2, hR2, hk2, hS2⟩ := e_X9_try (code := i) hc (by omega) hN hk hRR hK hR hok a
      rw [if_neg (by rw [hx]; decide), hM1, zz_bd_some, e_X9_burnsOf hc hK1, zz_bd_some]
      have go : ∀ y : Int32, y = ms_gF (fun i => ms_mn kd (ms_row kd N i X).1) w i x → (y = -1 ∨ 0 ≤ y) → ∃ M' : zz_M, b_X9_firstRow_44 (b_X9_firstRow_6 n) a (nI c) w (nI N) (nI i) y M1 = some (ms_fold (ms_gF (fun i => ms_mn kd (ms_row kd N i X).1) w) (d + 1) i x, M') ∧ mr_kept c R M' ∧ zz_i M' 130 = R ∧ me_same (fun q => q = 130) M M' := by
        intro y hy hy2
        unfold b_X9_firstRow_44
        rw [hM2, zz_bd_some, me_wr, nI_1, ms_fold, ← hy]
        have er : zz_i M2 130 = zz_i M 130 := by rw [hR2, hRR]
        obtain ⟨M3, hM3, hk3, hR3, hS3⟩ := e_X9_first6 (w := w) hc hN hok a d n (i + 1) M2 y (by omega) (by omega) hk2 hR2 (hK.row er) (hR.row er) hy2
        exact ⟨M3, hM3, hk3, hR3, hS2.tr hS3⟩
      by_cases q : ms_mn kd (ms_row kd N i X).1 < w
      · rw [if_pos q]
        exact go _ (by rw [ms_gF, if_neg (by rw [hx]; decide), if_pos q, hx]) (Or.inl rfl)
      · rw [if_neg q]
        exact go _ (by rw [ms_gF, if_neg (by rw [hx]; decide), if_neg q]) (Or.inr (nI_pos' (by omega)))
    · rw [if_pos hx]
      exact ⟨M, by rw [ms_gF_stop _ _ hx], hk, hRR, me_same.rf⟩
def ms_F (kd : Int32) (X : ms_X) (w : Int32) (n : Nat) : Int32 := ms_fold (ms_gF (fun i => ms_mn kd (ms_row kd n i X).1) w) (4 ^ n) 0 (-1)
theorem ms_F_cases (kd : Int32) (X : ms_X) (w : Int32) {n : Nat} (hn : n ≤ 6) : ms_F kd X w n = -1 ∨ 0 ≤ ms_F kd X w n := by
  have h4 := mr_4 hn
  have go : ∀ (d i : Nat) (x : Int32), i + d ≤ 4096 → x = -1 ∨ 0 ≤ x → ms_fold (ms_gF (fun i => ms_mn kd (ms_row kd n i X).1) w) d i x = -1 ∨ 0 ≤ ms_fold (ms_gF (fun i => ms_mn kd (ms_row kd n i X).1) w) d i x := by
    intro d
    induction d with
    | zero => intro i x _ h; exact h
    | succ d ih =>
      intro i x hi h
      rw [ms_fold]
      refine ih (i + 1) _ (by omega) ?_
      unfold ms_gF
      split
      · exact Or.inr (by assumption)
      · split
        · exact h
        · exact Or.inr (nI_pos' (by omega))
  exact go _ _ _ (by omega) (Or.inl rfl)
/-- by how few: the number of dips, and the first row -/
def ms_few (F : Nat → Int32) : Nat → Nat → Int32 × Int32
  | 0, _ => (-1, -1)
  | d + 1, n => if 0 ≤ F n then (nI n, F n) else ms_few F d (n + 1)
theorem e_X9_few12 {c : Nat} {kd w : Int32} {X : ms_X} {R : Nat → Int32} (hc : c < 10) (hok : ms_okX X) : ∀ (d n i : Nat) (M : zz_M) (x3 : Int32), d < n → i + d = 7 → x3 = nI i - 1 → mr_kept c R M → zz_i M 130 = R → ms_KM M 130 (20 + 42 * c) kd X.1 → ms_RW M 130 X.2 → zz_i M 129 4 = -1 →
    ∃ M' : zz_M, b_X9_fewestOf_12 n 129 (nI c) w x3 M = some ((ms_few (ms_F kd X w) d i).1, M') ∧ zz_i M' 129 4 = (ms_few (ms_F kd X w) d i).2 ∧ mr_kept c R M' ∧ zz_i M' 130 = R ∧ me_same (fun q => q = 130 ∨ q = 129) M M' ∧ (∀ k, k ≠ 4 → zz_i M' 129 k = zz_i M 129 k)
  | 0, n + 1, i, M, x3, _, hi, hx, hk, hRR, hK, hR, h4 => by
    have : i = 7 := by omega
    subst this
    unfold b_X9_fewestOf_12 b_X9_fewestOf_42
    rw [h4, if_neg (by decide), if_pos (by rw [hx]; decide), if_neg (by decide)]
    exact ⟨M, rfl, h4, hk, hRR, me_same.rf, fun _ _ => rfl⟩
  | d + 1, n + 1, i, M, x3, hd, hi, hx, hk, hRR, hK, hR, h4 => by
    have e1 : x3 + 1 = nI i := by rw [hx]; grind
    have hlt : ¬ (6 : Int32) ≤ x3 := by
      rcases (show i = 0 ∨ i = 1 ∨ i = 2 ∨ i = 3 ∨ i = 4 ∨ i = 5 ∨ i = 6 by omega) with rfl | rfl | rfl | rfl | rfl | rfl | rfl <;> (rw [hx]; decide)
    unfold b_X9_fewestOf_12
    rw [h4, if_neg (by decide), if_neg hlt, me_wr, e1]
    obtain ⟨M1, hM1, hk1, hR1, hS1⟩ := e_X9_first6 (w := w) (N := i) hc (by omega) hok 129 (4 ^ i) zz_fuel 0 M (-1) (by have := (mr_4 (n := i) (by omega)).2; show 4 ^ i < 5000; omega) (by omega) hk hRR hK hR (Or.inl rfl)
    have hF : f_X9_firstRow 129 (nI c) w (nI i) M = some (ms_F kd X w i, M1) := hM1
    rw [hF, zz_bd_some, me_wr]
    have er : zz_i (zz_si M1 129 4 (ms_F kd X w i)) 130 = zz_i M 130 := by
      funext j
      rw [me_ine (by omega), hR1, hRR]
    have hkk : mr_kept c R (zz_si M1 129 4 (ms_F kd X w i)) := hk1.fr (by funext j; rw [me_ine (by omega)])
    have hSS : me_same (fun q => q = 130 ∨ q = 129) M (zz_si M1 129 4 (ms_F kd X w i)) := (hS1.wk (fun q hq => Or.inl hq)).tr (me_same.si (Or.inr rfl))
    have h9 : ∀ k, k ≠ 4 → zz_i (zz_si M1 129 4 (ms_F kd X w i)) 129 k = zz_i M 129 k := fun k hk => by rw [me_ine (by omega), hS1.at (by decide)]
    unfold ms_few
    by_cases q : 0 ≤ ms_F kd X w i
    · rw [if_pos q]
      rcases n with _ | n
      · omega
      · unfold b_X9_fewestOf_12 b_X9_fewestOf_42
        rw [me_hit rfl rfl, if_pos q, if_pos q]
        exact ⟨_, rfl, me_hit rfl rfl, hkk, er.trans hRR, hSS, h9⟩
    · rw [if_neg q]
      have q1 : ms_F kd X w i = -1 := (ms_F_cases kd X w (n := i) (by omega)).resolve_right q
      obtain ⟨M2, hM2, h42, hk2, hR2, hS2, h92⟩ := e_X9_few12 (w := w) hc hok d n (i + 1) (zz_si M1 129 4 (ms_F kd X w i)) (nI i) (by omega) (by omega) (nI_pred i).symm hkk (er.trans hRR) (hK.row er) (hR.row er) (by rw [me_hit rfl rfl, q1])
      exact ⟨M2, hM2, h42, hk2, hR2, hSS.tr hS2, fun k hk => (h92 k hk).trans (h9 k hk)⟩
theorem e_X9_few {M : zz_M} {c : Nat} {kd w : Int32} {X : ms_X} (hc : c < 10) (hok : ms_okX X) (hK : ms_KM M 130 (20 + 42 * c) kd X.1) (hR : ms_RW M 130 X.2) :
    ∃ M' : zz_M, f_X9_fewestOf 129 (nI c) w M = some ((ms_few (ms_F kd X w) 7 0).1, M') ∧ zz_i M' 129 4 = (ms_few (ms_F kd X w) 7 0).2 ∧ zz_i M' 130 = zz_i M 130 ∧ me_same (fun q => q = 130 ∨ q = 129 ∨ q = 133) M M' ∧ (∀ k, k ≠ 4 → zz_i M' 129 k = zz_i M 129 k) := by
  obtain ⟨M1, hM1, hk1, hS1⟩ := e_X9_keeps (M := M) hc 129
  have e1 : zz_i M1 130 = zz_i M 130 := hS1.at (by decide)
  have er : zz_i (zz_si M1 129 4 (-1)) 130 = zz_i M 130 := by funext j; rw [me_ine (by omega), e1]
  obtain ⟨M2, hM2, h42, hk2, hR2, hS2, h92⟩ := e_X9_few12 (w := w) (R := zz_i M 130) hc hok 7 zz_fuel 0 (zz_si M1 129 4 (-1)) (-1) (by decide) (by omega) (by decide) (hk1.fr (by funext j; rw [me_ine (by omega)])) er (hK.row er) (hR.row er) (me_hit rfl rfl)
  refine ⟨M2, ?_, h42, hR2, ((hS1.wk (Q := fun q => q = 130 ∨ q = 129 ∨ q = 133) (fun q hq => Or.inr (Or.inr hq))).tr (me_same.si (Or.inr (Or.inl rfl)))).tr (hS2.wk (Q := fun q => q = 130 ∨ q = 129 ∨ q = 133) (fun q hq => by rcases hq with h | h <;> simp [h])), fun k hk => ?_⟩
  · rw [f_X9_fewestOf, hM1, zz_bd_some, me_wr, hM2]
  · rw [h92 k hk, me_ine (by omega), hS1.at (by decide)]
theorem e_X9_ways43 {c : Nat} {kd w : Int32} {N : Nat} {X : ms_X} {R : Nat → Int32} (hc : c < 10) (hN : N ≤ 6) (hok : ms_okX X) (a : Nat) : ∀ (d n i : Nat) (M : zz_M) (x : Int32), d < n → i + d = 4 ^ N → mr_kept c R M → zz_i M 130 = R → ms_KM M 130 (20 + 42 * c) kd X.1 → ms_RW M 130 X.2 →
    ∃ M' : zz_M, b_X9_ways_43 n a (nI c) w (nI N) x (nI i) M = some (ms_fold (ms_gC (fun i => ms_mn kd (ms_row kd N i X).1) w) d i x, M') ∧ zz_i M' 130 = R ∧ me_same (fun q => q = 130) M M'
  | 0, n + 1, i, M, x, _, hi, hk, hRR, hK, hR => by
    have h4 := mr_4 hN
    unfold b_X9_ways_43
    rw [mr_lim hN, if_pos (nI_le (by omega) (by omega))]
    exact ⟨M, rfl, hRR, me_same.rf⟩
  | d + 1, n + 1, i, M, x, hd, hi, hk, hRR, hK, hR => by
    have h4 := mr_4 hN
    unfold b_X9_ways_43
    rw [mr_lim hN, if_neg (nI_ge (by omega) (by omega))]
    obtain ⟨M1, hM1, hK1, hS1, M2, hM2, hR2, hk2, hS2⟩ := e_X9_try (code := i) hc (by omega) hN hk hRR hK hR hok a
    rw [hM1, zz_bd_some, e_X9_burnsOf hc hK1, zz_bd_some]
    have go : ∀ y : Int32, x + y = ms_gC (fun i => ms_mn kd (ms_row kd N i X).1) w i x → ∃ M' : zz_M, b_X9_ways_77 (b_X9_ways_43 n) a (nI c) w (nI N) (nI i) y x M1 = some (ms_fold (ms_gC (fun i => ms_mn kd (ms_row kd N i X).1) w) (d + 1) i x, M') ∧ zz_i M' 130 = R ∧ me_same (fun q => q = 130) M M' := by
      intro y hy
      unfold b_X9_ways_77
      rw [me_wr, hM2, zz_bd_some, me_wr, nI_1, ms_fold, ← hy]
      have er : zz_i M2 130 = zz_i M 130 := by rw [hR2, hRR]
      obtain ⟨M3, hM3, hR3, hS3⟩ := e_X9_ways43 (w := w) hc hN hok a d n (i + 1) M2 (x + y) (by omega) (by omega) hk2 hR2 (hK.row er) (hR.row er)
      exact ⟨M3, hM3, hR3, hS2.tr hS3⟩
    by_cases q : ms_mn kd (ms_row kd N i X).1 = w
    · rw [if_pos q]
      exact go _ (by rw [ms_gC, if_pos q])
    · rw [if_neg q]
      exact go _ (by rw [ms_gC, if_neg q])
theorem e_X9_most35 {c : Nat} {kd : Int32} {N : Nat} {X : ms_X} {R : Nat → Int32} (hc : c < 10) (hN : N ≤ 6) (hok : ms_okX X) (a : Nat) : ∀ (d n i : Nat) (M : zz_M) (x : Int32), d < n → i + d = 4 ^ N → mr_kept c R M → zz_i M 130 = R → ms_KM M 130 (20 + 42 * c) kd X.1 → ms_RW M 130 X.2 →
    ∃ M' : zz_M, b_X9_most_35 n a (nI c) (nI N) x (nI i) M = some (ms_fold (ms_gL (fun i => ms_mn kd (ms_row kd N i X).1)) d i x, M') ∧ zz_i M' 130 = R ∧ me_same (fun q => q = 130) M M'
  | 0, n + 1, i, M, x, _, hi, hk, hRR, hK, hR => by
    have h4 := mr_4 hN
    unfold b_X9_most_35
    rw [mr_lim hN, if_pos (nI_le (by omega) (by omega))]
    exact ⟨M, rfl, hRR, me_same.rf⟩
  | d + 1, n + 1, i, M, x, hd, hi, hk, hRR, hK, hR => by
    have h4 := mr_4 hN
    unfold b_X9_most_35
    rw [mr_lim hN, if_neg (nI_ge (by omega) (by omega))]
    obtain ⟨M1, hM1, hK1, hS1, M2, hM2, hR2, hk2, hS2⟩ := e_X9_try (code := i) hc (by omega) hN hk hRR hK hR hok a
    rw [hM1, zz_bd_some, e_X9_burnsOf hc hK1, zz_bd_some]
    have go : ∀ y : Int32, y = ms_gL (fun i => ms_mn kd (ms_row kd N i X).1) i x → ∃ M' : zz_M, b_X9_most_72 (b_X9_most_35 n) a (nI c) (nI N) (nI i) y M1 = some (ms_fold (ms_gL (fun i => ms_mn kd (ms_row kd N i X).1)) (d + 1) i x, M') ∧ zz_i M' 130 = R ∧ me_same (fun q => q = 130) M M' := by
      intro y hy
      unfold b_X9_most_72
      rw [hM2, zz_bd_some, me_wr, nI_1, ms_fold, ← hy]
      have er : zz_i M2 130 = zz_i M 130 := by rw [hR2, hRR]
      obtain ⟨M3, hM3, hR3, hS3⟩ := e_X9_most35 hc hN hok a d n (i + 1) M2 y (by omega) (by omega) hk2 hR2 (hK.row er) (hR.row er)
      exact ⟨M3, hM3, hR3, hS2.tr hS3⟩
    by_cases q : ms_mn kd (ms_row kd N i X).1 ≤ x
    · rw [if_pos q]
      exact go _ (by rw [ms_gL, if_pos q])
    · rw [if_neg q]
      exact go _ (by rw [ms_gL, if_neg q])
