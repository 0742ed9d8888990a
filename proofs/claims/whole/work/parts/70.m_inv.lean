/-! The invariant: what the class's cells and the reference's say alike. -/
abbrev ms_S : Type := (Nat → Int32) × Nat × (Nat → Int32 × List Int32)
abbrev ms_T : Type := Nat × (Nat → Int32)
abbrev ms_H : Type := (Nat → Int32) × (Nat → Nat) × (Nat → Nat → Int64)
def ms_okS (S : ms_S) : Prop := ms_okV S.1 ∧ (0 ≤ S.1 3 ∧ S.1 3 ≤ 9999) ∧ S.2.1 ≤ 10 ∧ ∀ c, c < 10 → 0 ≤ (S.2.2 c).1 ∧ (S.2.2 c).1 ≤ 5
def ms_SC (M : zz_M) (a : Nat) (S : ms_S) : Prop := ms_RV M (a + 1) S.1 ∧ zz_i M a 2 = nI S.2.1 ∧ ∀ c, c < 10 → ms_KC M (a + 7 + 1 + 2 * c) (S.2.2 c).1 (S.2.2 c).2
def ms_SM (M : zz_M) (r : Nat) (S : ms_S) : Prop := zz_i M r 0 = nI S.2.1 ∧ ms_RW M r S.1 ∧ ∀ c, c < S.2.1 → ms_KM M r (20 + 42 * c) (S.2.2 c).1 (S.2.2 c).2
theorem ms_SC.fr {M M' : zz_M} {a : Nat} {S : ms_S} (h : ms_SC M a S) (e : ∀ q, a ≤ q → q < a + 28 → zz_i M' q = zz_i M q) : ms_SC M' a S := by
  obtain ⟨h1, h2, h3⟩ := h
  exact ⟨h1.fr (fun q _ _ => e q (by omega) (by omega)), by rw [e a (by omega) (by omega), h2], fun c hc => (h3 c hc).fr (e _ (by omega) (by omega)) (e _ (by omega) (by omega))⟩
theorem ms_SM.fr {M M' : zz_M} {r : Nat} {S : ms_S} (h : ms_SM M r S) (hn : S.2.1 ≤ 10) (e : ∀ j, j < 440 → zz_i M' r j = zz_i M r j) : ms_SM M' r S := by
  obtain ⟨h1, h2, h3⟩ := h
  exact ⟨by rw [e 0 (by omega), h1], fun j h4 h5 => by rw [e j (by omega), h2 j h4 h5], fun c hc => (h3 c hc).fr (fun j _ _ => e j (by omega))⟩
theorem ms_SM.mv {M M' : zz_M} {r r' : Nat} {S : ms_S} (h : ms_SM M r S) (hn : S.2.1 ≤ 10) (e : ∀ j, j < 440 → zz_i M' r' j = zz_i M r j) : ms_SM M' r' S := by
  obtain ⟨h1, h2, h3⟩ := h
  exact ⟨by rw [e 0 (by omega), h1], fun j h4 h5 => by rw [e j (by omega), h2 j h4 h5], fun c hc => (h3 c hc).mv (fun j _ => e _ (by omega))⟩
def ms_TC (M : zz_M) (T : ms_T) : Prop := zz_i M 88 1 = nI T.1 ∧ ∀ j, j < T.1 → zz_i M 89 j = T.2 j
def ms_TM (M : zz_M) (T : ms_T) : Prop := zz_i M 129 6 = nI T.1 ∧ ∀ j, j < T.1 → zz_i M 134 j = T.2 j
def ms_okT (T : ms_T) : Prop := T.1 ≤ 120 ∧ ∀ j, 0 ≤ T.2 j ∧ T.2 j ≤ 255
def ms_HC (M : zz_M) (H : ms_H) : Prop := ∀ s, s < 4 → zz_i M (119 + 1 + 2 * s) 0 = H.1 s ∧ zz_i M (119 + 1 + 2 * s) 1 = nI (H.2.1 s) ∧ ∀ j, j < 40 → zz_j M (119 + 1 + 2 * s + 1) j = H.2.2 s j
def ms_HM (M : zz_M) (H : ms_H) : Prop := ∀ s, s < 4 → zz_i M 135 s = H.1 s ∧ zz_i M 136 s = nI (H.2.1 s) ∧ ∀ j, j < 40 → zz_j M 137 (40 * s + j) = H.2.2 s j
def ms_okH (H : ms_H) : Prop := ∀ s, s < 4 → H.2.1 s ≤ 40 ∧ (H.1 s = 0 ∨ H.1 s = 8 ∨ H.1 s = 16 ∨ H.1 s = 64)
def ms_FC (M : zz_M) (F : Nat → Int32) : Prop := ∀ k, k < 7 → zz_i M 128 k = F k
def ms_FM (M : zz_M) (F : Nat → Int32) : Prop := ∀ k, k < 7 → zz_i M 131 k = F k
def ms_IC (M : zz_M) : Option ms_S → Prop
  | none => zz_i M 0 2 = 0
  | some S => zz_i M 0 2 = 1 ∧ ms_SC M 29 S
def ms_IM (M : zz_M) : Option ms_S → Prop
  | none => zz_i M 129 19 = 0
  | some S => zz_i M 129 19 = 1 ∧ ms_SM M 139 S
def ms_okI : Option ms_S → Prop
  | none => True
  | some S => ms_okS S
abbrev ms_Z : Type := ms_S × Option ms_S × ms_T × ms_H × (Nat → Int32)
def mi_O (Z : ms_Z) : Prop := ms_okS Z.1 ∧ ms_okI Z.2.1 ∧ ms_okT Z.2.2.1 ∧ ms_okH Z.2.2.2.1
def mi_C (M : zz_M) (Z : ms_Z) : Prop := ms_SC M 1 Z.1 ∧ ms_IC M Z.2.1 ∧ ms_TC M Z.2.2.1 ∧ ms_HC M Z.2.2.2.1 ∧ ms_FC M Z.2.2.2.2
def mi_D (M : zz_M) (Z : ms_Z) : Prop := ms_SM M 130 Z.1 ∧ ms_IM M Z.2.1 ∧ ms_TM M Z.2.2.1 ∧ ms_HM M Z.2.2.2.1 ∧ ms_FM M Z.2.2.2.2
def mi_Inv (M : zz_M) : Prop := ∃ Z : ms_Z, mi_O Z ∧ mi_C M Z ∧ mi_D M Z
/-- the class changes its own cells alone -/
theorem mi_D.cl {M M' : zz_M} {Z : ms_Z} (hO : mi_O Z) (h : mi_D M Z) (e : ∀ q, 129 ≤ q → zz_i M' q = zz_i M q) (ej : ∀ q, 129 ≤ q → zz_j M' q = zz_j M q) : mi_D M' Z := by
  obtain ⟨h1, h2, h3, h4, h5⟩ := h
  refine ⟨h1.fr hO.1.2.2.1 (fun j _ => by rw [e 130 (by omega)]), ?_, ?_, fun s hs => ?_, fun k hk => by rw [e 131 (by omega), h5 k hk]⟩
  · have hI := hO.2.1
    revert h2 hI
    cases Z.2.1 with
    | none => intro h2 _; exact (congrFun (e 129 (by omega)) 19).trans h2
    | some S => intro h2 hI; exact ⟨(congrFun (e 129 (by omega)) 19).trans h2.1, h2.2.fr hI.2.2.1 (fun j _ => by rw [e 139 (by omega)])⟩
  · exact ⟨by rw [e 129 (by omega), h3.1], fun j hj => by rw [e 134 (by omega), h3.2 j hj]⟩
  · obtain ⟨g1, g2, g3⟩ := h4 s hs
    exact ⟨by rw [e 135 (by omega), g1], by rw [e 136 (by omega), g2], fun j hj => by rw [ej 137 (by omega), g3 j hj]⟩
/-- the reference changes its own cells alone -/
theorem mi_C.rf {M M' : zz_M} {Z : ms_Z} (h : mi_C M Z) (e : ∀ q, q < 129 → zz_i M' q = zz_i M q) (ej : ∀ q, q < 129 → zz_j M' q = zz_j M q) : mi_C M' Z := by
  obtain ⟨h1, h2, h3, h4, h5⟩ := h
  refine ⟨h1.fr (fun q _ _ => e q (by omega)), ?_, ?_, fun s hs => ?_, fun k hk => by rw [e 128 (by omega), h5 k hk]⟩
  · revert h2
    cases Z.2.1 with
    | none => intro h2; exact (congrFun (e 0 (by omega)) 2).trans h2
    | some S => intro h2; exact ⟨(congrFun (e 0 (by omega)) 2).trans h2.1, h2.2.fr (fun q _ _ => e q (by omega))⟩
  · exact ⟨by rw [e 88 (by omega), h3.1], fun j hj => by rw [e 89 (by omega), h3.2 j hj]⟩
  · obtain ⟨g1, g2, g3⟩ := h4 s hs
    exact ⟨by rw [e _ (by omega), g1], by rw [e _ (by omega), g2], fun j hj => by rw [ej _ (by omega), g3 j hj]⟩
/-- what the class may change when only the shop becomes another one -/
def mi_cs (q : Nat) : Prop := 1 ≤ q ∧ q < 29 ∨ 57 ≤ q ∧ q < 88 ∨ 90 ≤ q ∧ q < 119
theorem mi_C.shop {M M' : zz_M} {Z : ms_Z} {S : ms_S} (h : mi_C M Z) (e : me_same mi_cs M M') (hS : ms_SC M' 1 S) : mi_C M' (S, Z.2) := by
  obtain ⟨h1, h2, h3, h4, h5⟩ := h
  refine ⟨hS, ?_, ?_, fun s hs => ?_, fun k hk => by rw [e.at (by unfold mi_cs; omega), h5 k hk]⟩
  · revert h2
    show ms_IC M Z.2.1 → ms_IC M' Z.2.1
    cases Z.2.1 with
    | none => intro h2; exact (congrFun (e.at (q := 0) (by unfold mi_cs; omega)) 2).trans h2
    | some S => intro h2; exact ⟨(congrFun (e.at (q := 0) (by unfold mi_cs; omega)) 2).trans h2.1, h2.2.fr (fun q _ _ => e.at (by unfold mi_cs; omega))⟩
  · exact ⟨by rw [e.at (by unfold mi_cs; omega), h3.1], fun j hj => by rw [e.at (by unfold mi_cs; omega), h3.2 j hj]⟩
  · obtain ⟨g1, g2, g3⟩ := h4 s hs
    exact ⟨by rw [e.at (by unfold mi_cs; omega), g1], by rw [e.at (by unfold mi_cs; omega), g2], fun j hj => by rw [e.2, g3 j hj]⟩
/-- what the reference may change when only the shop becomes another one -/
def mi_ds (M M' : zz_M) : Prop := (∀ q, q ≠ 129 → q ≠ 130 → q ≠ 132 → q ≠ 133 → q ≠ 140 → zz_i M' q = zz_i M q) ∧ zz_i M' 129 6 = zz_i M 129 6 ∧ zz_i M' 129 19 = zz_i M 129 19 ∧ ∀ q, q ≠ 129 → zz_j M' q = zz_j M q
theorem mi_ds.rf {M : zz_M} : mi_ds M M := ⟨fun _ _ _ _ _ _ => rfl, rfl, rfl, fun _ _ => rfl⟩
theorem mi_ds.tr {M M1 M2 : zz_M} (h1 : mi_ds M M1) (h2 : mi_ds M1 M2) : mi_ds M M2 := ⟨fun q a b c d e => (h2.1 q a b c d e).trans (h1.1 q a b c d e), h2.2.1.trans h1.2.1, h2.2.2.1.trans h1.2.2.1, fun q a => (h2.2.2.2 q a).trans (h1.2.2.2 q a)⟩
theorem mi_ds.of {P : Nat → Prop} {M M' : zz_M} (h : me_same P M M') (hP : ∀ q, P q → q = 130 ∨ q = 132 ∨ q = 133 ∨ q = 140) : mi_ds M M' :=
  ⟨fun q a b c d e => h.at (fun z => by have := hP q z; omega), by rw [h.at (fun z => by have := hP 129 z; omega)], by rw [h.at (fun z => by have := hP 129 z; omega)], fun q _ => by rw [h.2]⟩
theorem mi_D.shop {M M' : zz_M} {Z : ms_Z} {S : ms_S} (hO : mi_O Z) (h : mi_D M Z) (e : mi_ds M M') (hS : ms_SM M' 130 S) : mi_D M' (S, Z.2) := by
  obtain ⟨h1, h2, h3, h4, h5⟩ := h
  obtain ⟨e1, e2, e3, e4⟩ := e
  refine ⟨hS, ?_, ?_, fun s hs => ?_, fun k hk => by rw [e1 131 (by omega) (by omega) (by omega) (by omega) (by omega), h5 k hk]⟩
  · have hI := hO.2.1
    revert h2 hI
    show ms_IM M Z.2.1 → ms_okI Z.2.1 → ms_IM M' Z.2.1
    cases Z.2.1 with
    | none => intro h2 _; exact e3.trans h2
    | some S => intro h2 hI; exact ⟨e3.trans h2.1, h2.2.fr hI.2.2.1 (fun j _ => by rw [e1 139 (by omega) (by omega) (by omega) (by omega) (by omega)])⟩
  · exact ⟨by rw [e2, h3.1], fun j hj => by rw [e1 134 (by omega) (by omega) (by omega) (by omega) (by omega), h3.2 j hj]⟩
  · obtain ⟨g1, g2, g3⟩ := h4 s hs
    exact ⟨by rw [e1 135 (by omega) (by omega) (by omega) (by omega) (by omega), g1], by rw [e1 136 (by omega) (by omega) (by omega) (by omega) (by omega), g2], fun j hj => by rw [e4 137 (by omega), g3 j hj]⟩
theorem mi_ds.lo {M M' : zz_M} (e : mi_ds M M') {Z : ms_Z} (h : mi_C M Z) : mi_C M' Z := h.rf (fun q hq => e.1 q (by omega) (by omega) (by omega) (by omega) (by omega)) (fun q hq => e.2.2.2 q (by omega))
/-- a shop becomes another one -/
theorem mi_shop {ρ : Type} {g h : zz_M → Option (ρ × zz_M)} {M M1 M2 : zz_M} {Z : ms_Z} {S : ms_S} {r : ρ} (hO : mi_O Z) (hC : mi_C M Z) (hD : mi_D M Z) (hg : g M = some (r, M1)) (eg : me_same mi_cs M M1) (hS1 : ms_SC M1 1 S) (hh : h M1 = some (r, M2)) (eh : mi_ds M1 M2) (hS2 : ms_SM M2 130 S) (hok : ms_okS S) : zw_eq mi_Inv g h M := by
  refine ⟨r, M1, M2, hg, hh, (S, Z.2), ⟨hok, hO.2⟩, eh.lo (hC.shop eg hS1), ?_⟩
  exact mi_D.shop hO (hD.cl hO (fun q hq => eg.at (by unfold mi_cs; omega)) (fun q _ => by rw [eg.2])) eh hS2
/-- findings -/
def mi_f (Z : ms_Z) (k : Nat) : ms_Z := (Z.1, Z.2.1, Z.2.2.1, Z.2.2.2.1, ms_u Z.2.2.2.2 k (Z.2.2.2.2 k + 1))
theorem mi_C.fi {M : zz_M} {Z : ms_Z} {k : Nat} (hk : k < 7) (h : mi_C M Z) : mi_C (ms_fC k M) (mi_f Z k) := by
  obtain ⟨h1, h2, h3, h4, h5⟩ := h
  have e : me_same (fun q => q = 128) M (ms_fC k M) := me_same.s1
  refine ⟨h1.fr (fun q _ _ => e.at (by omega)), ?_, ?_, fun s hs => ?_, fun j hj => ?_⟩
  · revert h2
    show ms_IC M Z.2.1 → ms_IC _ Z.2.1
    cases Z.2.1 with
    | none => intro h2; exact (congrFun (e.at (q := 0) (by omega)) 2).trans h2
    | some S => intro h2; exact ⟨(congrFun (e.at (q := 0) (by omega)) 2).trans h2.1, h2.2.fr (fun q _ _ => e.at (by omega))⟩
  · exact ⟨by rw [e.at (by omega)]; exact h3.1, fun j hj => by rw [e.at (by omega)]; exact h3.2 j hj⟩
  · obtain ⟨g1, g2, g3⟩ := h4 s hs
    exact ⟨by rw [e.at (by omega)]; exact g1, by rw [e.at (by omega)]; exact g2, fun j hj => by rw [e.2]; exact g3 j hj⟩
  · show zz_i (zz_si M 128 k (zz_i M 128 k + 1)) 128 j = ms_u Z.2.2.2.2 k (Z.2.2.2.2 k + 1) j
    by_cases q : j = k
    · rw [me_hit rfl q, ms_u_hit q, h5 k hk]
    · rw [me_ine (by omega), ms_u_ne q, h5 j hj]
theorem mi_D.fi {M : zz_M} {Z : ms_Z} {k : Nat} (hk : k < 7) (hO : mi_O Z) (h : mi_D M Z) : mi_D (ms_fM k M) (mi_f Z k) := by
  obtain ⟨h1, h2, h3, h4, h5⟩ := h
  have e : me_same (fun q => q = 131) M (ms_fM k M) := me_same.s1
  refine ⟨h1.fr hO.1.2.2.1 (fun j _ => by rw [e.at (by omega)]), ?_, ?_, fun s hs => ?_, fun j hj => ?_⟩
  · have hI := hO.2.1
    revert h2 hI
    show ms_IM M Z.2.1 → ms_okI Z.2.1 → ms_IM _ Z.2.1
    cases Z.2.1 with
    | none => intro h2 _; exact (congrFun (e.at (q := 129) (by omega)) 19).trans h2
    | some S => intro h2 hI; exact ⟨(congrFun (e.at (q := 129) (by omega)) 19).trans h2.1, h2.2.fr hI.2.2.1 (fun j _ => by rw [e.at (by omega)])⟩
  · exact ⟨by rw [e.at (by omega)]; exact h3.1, fun j hj => by rw [e.at (by omega)]; exact h3.2 j hj⟩
  · obtain ⟨g1, g2, g3⟩ := h4 s hs
    exact ⟨by rw [e.at (by omega)]; exact g1, by rw [e.at (by omega)]; exact g2, fun j hj => by rw [e.2]; exact g3 j hj⟩
  · show zz_i (zz_si M 131 k (zz_i M 131 k + 1)) 131 j = ms_u Z.2.2.2.2 k (Z.2.2.2.2 k + 1) j
    by_cases q : j = k
    · rw [me_hit rfl q, ms_u_hit q, h5 k hk]
    · rw [me_ine (by omega), ms_u_ne q, h5 j hj]
/-- both tell finding k: the class on M1, where only scratch has changed; so does the reference -/
theorem mi_find {ρ : Type} {g h : zz_M → Option (ρ × zz_M)} {M M1 M2 : zz_M} {Z : ms_Z} {r : ρ} (k : Nat) (hk : k < 7) (hO : mi_O Z) (hC : mi_C M Z) (hD : mi_D M Z) (hg : g M = some (r, ms_fC k M1)) (eg : me_same mi_cs M M1) (hS1 : ms_SC M1 1 Z.1) (hh : h (ms_fC k M1) = some (r, ms_fM k M2)) (eh : mi_ds (ms_fC k M1) M2) (hS2 : ms_SM M2 130 Z.1) : zw_eq mi_Inv g h M := by
  have hC1 : mi_C (ms_fC k M1) (mi_f Z k) := mi_C.fi hk (hC.shop eg hS1)
  have hD1 : mi_D (ms_fC k M1) Z := hD.cl hO (fun q hq => by
    exact (show zz_i (ms_fC k M1) q = zz_i M1 q from zz_i_si_ne (by omega)).trans (eg.at (by unfold mi_cs; omega))) (fun q _ => by
    show zz_j M1 q = _
    rw [eg.2])
  have hD2 : mi_D M2 Z := mi_D.shop hO hD1 eh hS2
  refine ⟨r, ms_fC k M1, ms_fM k M2, hg, hh, mi_f Z k, hO, ?_, hD2.fi hk hO⟩
  exact (eh.lo hC1).rf (fun q hq => show zz_i (ms_fM k M2) q = zz_i M2 q from zz_i_si_ne (by omega)) (fun _ _ => rfl)
/-- nothing has happened but the finding -/
theorem mi_find0 {ρ : Type} {g h : zz_M → Option (ρ × zz_M)} {M : zz_M} {Z : ms_Z} {r : ρ} (k : Nat) (hk : k < 7) (hO : mi_O Z) (hC : mi_C M Z) (hD : mi_D M Z) (hg : g M = some (r, ms_fC k M)) (hh : ∀ M1, ms_SM M1 130 Z.1 → mi_D M1 Z → h M1 = some (r, ms_fM k M1)) : zw_eq mi_Inv g h M := by
  have hD1 : mi_D (ms_fC k M) Z := hD.cl hO (fun q hq => show zz_i (ms_fC k M) q = zz_i M q from zz_i_si_ne (by omega)) (fun _ _ => rfl)
  exact mi_find k hk hO hC hD hg me_same.rf hC.1 (hh _ hD1.1 hD1) mi_ds.rf hD1.1
/-- nothing has happened -/
theorem mi_ask {ρ : Type} {g h : zz_M → Option (ρ × zz_M)} {M : zz_M} {Z : ms_Z} {r : ρ} (hO : mi_O Z) (hC : mi_C M Z) (hD : mi_D M Z) (hg : g M = some (r, M)) (hh : h M = some (r, M)) : zw_eq mi_Inv g h M := ⟨r, M, M, hg, hh, Z, hO, hC, hD⟩
/-! Ranges. -/
theorem ms_in_nat {x l h : Int32} {a b : Nat} (hl : l = nI a) (hh : h = nI b) (ha : a < 2 ^ 31) (hb : b < 2 ^ 31) : ms_in x l h = 0 ∨ ms_in x l h = 1 ∧ ∃ k, a ≤ k ∧ k ≤ b ∧ x = nI k := by
  rcases ms_in_cases x l h with ⟨h1, _⟩ | ⟨h1, h2, h3⟩
  · exact Or.inl h1
  · refine Or.inr ⟨h1, ?_⟩
    have hx0 : ¬ x < 0 := by
      have : (0 : Int32) ≤ l := by rw [hl]; exact nI_pos' ha
      rw [Int32.not_lt]
      exact Int32.le_trans this h2
    obtain ⟨k, hk, rfl⟩ := nI_of2 (M := h) (n := b) (by rw [hh]; exact nI_toInt hb) hx0 h3
    rw [hl, nI_leI ha (by omega)] at h2
    exact ⟨k, h2, hk, rfl⟩
theorem ms_in_has {x : Int32} {n : Nat} (hn : n ≤ 10) : ms_in x 0 (nI n - 1) = 0 ∨ ms_in x 0 (nI n - 1) = 1 ∧ ∃ c, c < n ∧ x = nI c := by
  rcases n with _ | n
  · rcases ms_in_cases x 0 (nI 0 - 1) with ⟨h1, _⟩ | ⟨h1, h2, h3⟩
    · exact Or.inl h1
    · exfalso
      have e : nI 0 - 1 = -1 := by decide
      rw [e] at h3
      exact absurd (Int32.le_trans h2 h3) (by decide)
  · rw [nI_pred]
    rcases ms_in_nat (x := x) (l := 0) (h := nI n) (a := 0) (b := n) rfl rfl (by omega) (by omega) with h | ⟨h, k, _, hk, e⟩
    · exact Or.inl h
    · exact Or.inr ⟨h, k, by omega, e⟩
theorem me_t0 : ((0 : Int32) = 0) = True := eq_self 0
theorem me_t1 : ((1 : Int32) = 0) = False := eq_false (by decide)
theorem e_fi0 (a : Nat) (M : zz_M) : f_X8_finding a (-1000000001) M = some (-1000000001, ms_fC 0 M) := (e_finding a M).1
theorem e_fi1 (a : Nat) (M : zz_M) : f_X8_finding a (-1000000002) M = some (-1000000002, ms_fC 1 M) := (e_finding a M).2.1
theorem e_fi2 (a : Nat) (M : zz_M) : f_X8_finding a (-1000000003) M = some (-1000000003, ms_fC 2 M) := (e_finding a M).2.2.1
theorem e_fi3 (a : Nat) (M : zz_M) : f_X8_finding a (-1000000004) M = some (-1000000004, ms_fC 3 M) := (e_finding a M).2.2.2.1
theorem e_fi4 (a : Nat) (M : zz_M) : f_X8_finding a (-1000000005) M = some (-1000000005, ms_fC 4 M) := (e_finding a M).2.2.2.2.1
theorem e_fi5 (a : Nat) (M : zz_M) : f_X8_finding a (-1000000006) M = some (-1000000006, ms_fC 5 M) := (e_finding a M).2.2.2.2.2.1
theorem e_fi6 (a : Nat) (M : zz_M) : f_X8_finding a (-1000000007) M = some (-1000000007, ms_fC 6 M) := (e_finding a M).2.2.2.2.2.2
theorem e_fs0 (a : Nat) (M : zz_M) : f_X9_finds a (-1000000001) M = some (-1000000001, ms_fM 0 M) := (e_finds a M).1
theorem e_fs1 (a : Nat) (M : zz_M) : f_X9_finds a (-1000000002) M = some (-1000000002, ms_fM 1 M) := (e_finds a M).2.1
theorem e_fs2 (a : Nat) (M : zz_M) : f_X9_finds a (-1000000003) M = some (-1000000003, ms_fM 2 M) := (e_finds a M).2.2.1
theorem e_fs3 (a : Nat) (M : zz_M) : f_X9_finds a (-1000000004) M = some (-1000000004, ms_fM 3 M) := (e_finds a M).2.2.2.1
theorem e_fs4 (a : Nat) (M : zz_M) : f_X9_finds a (-1000000005) M = some (-1000000005, ms_fM 4 M) := (e_finds a M).2.2.2.2.1
theorem e_fs5 (a : Nat) (M : zz_M) : f_X9_finds a (-1000000006) M = some (-1000000006, ms_fM 5 M) := (e_finds a M).2.2.2.2.2.1
theorem e_fs6 (a : Nat) (M : zz_M) : f_X9_finds a (-1000000007) M = some (-1000000007, ms_fM 6 M) := (e_finds a M).2.2.2.2.2.2
