/-! The reference's row: candles and vats in it. -/
theorem mr_ix (c k : Nat) {x : Int32} (hx : x = nI k) : ((20 : Int32) + (42 : Int32) * nI c) + x = nI (20 + 42 * c + k) := by
  rw [hx, show (42 : Int32) = nI 42 from rfl, show (20 : Int32) = nI 20 from rfl, pk_mul, nI_add, nI_add]
theorem mr_vx (v k : Nat) {x : Int32} (hx : x = nI k) : ((4 : Int32) + (4 : Int32) * nI v) + x = nI (4 + 4 * v + k) := by
  rw [hx, show (4 : Int32) = nI 4 from rfl, pk_mul, nI_add, nI_add]
theorem e_X9_at (c k : Nat) {x : Int32} (hx : x = nI k) (M : zz_M) : f_X9_at (nI c) x M = some (nI (20 + 42 * c + k), M) := by
  rw [f_X9_at, mr_ix c k hx]
theorem e_X9_kindOf {c : Nat} (hc : c < 10) (a : Nat) (M : zz_M) : f_X9_kindOf a (nI c) M = some (zz_i M 130 (20 + 42 * c), M) := by
  rw [f_X9_kindOf, e_X9_at c 0 (x := 0) rfl, zz_bd_some, if_pos (me_in (by omega) (by decide)), me_n (by omega), Nat.add_zero]
theorem e_X9_many {c : Nat} (hc : c < 10) (a : Nat) (M : zz_M) : f_X9_many a (nI c) M = some (zz_i M 130 (20 + 42 * c + 1), M) := by
  rw [f_X9_many, e_X9_at c 1 (x := 1) rfl, zz_bd_some, if_pos (me_in (by omega) (by decide)), me_n (by omega)]
theorem e_X9_layerOf {c i : Nat} (hc : c < 10) (hi : i < 40) {x : Int32} (hx : x = nI i) (a : Nat) (M : zz_M) : f_X9_layerOf a (nI c) x M = some (zz_i M 130 (20 + 42 * c + 2 + i), M) := by
  rw [f_X9_layerOf, e_X9_at c (2 + i) (by rw [hx, show (2 : Int32) = nI 2 from rfl, nI_add]), zz_bd_some, if_pos (me_in (by omega) (by decide)), me_n (by omega), Nat.add_assoc (20 + 42 * c)]
theorem e_X9_its {v k : Nat} (hv : v < 4) (hk : k < 4) {x : Int32} (hx : x = nI k) (a : Nat) (M : zz_M) : f_X9_its a (nI v) x M = some (zz_i M 130 (4 + 4 * v + k), M) := by
  rw [f_X9_its, mr_vx v k hx, if_pos (me_in (by omega) (by decide)), me_n (by omega)]
theorem e_X9_setVat {v k : Nat} (hv : v < 4) (hk : k < 4) {x : Int32} (hx : x = nI k) (y : Int32) (a : Nat) (M : zz_M) : f_X9_setVat a (nI v) x y M = some ((), zz_si M 130 (4 + 4 * v + k) y) := by
  rw [f_X9_setVat, mr_vx v k hx, if_pos (me_in (by omega) (by decide)), me_n (by omega), me_wr]
def ms_sum (f : Nat → Int32) : Nat → Int32
  | 0 => 0
  | n + 1 => ms_sum f n + f n
theorem ms_sum_congr {f g : Nat → Int32} : ∀ {n : Nat}, (∀ j, j < n → f j = g j) → ms_sum f n = ms_sum g n
  | 0, _ => rfl
  | n + 1, h => by rw [ms_sum, ms_sum, ms_sum_congr (fun j hj => h j (by omega)), h n (by omega)]
def ms_gr (wa g : Int32) : Int32 := if 0 ≤ g then (if wa = 0 then g else 0) else -g
theorem e_X9_grams5 {c n : Nat} (hc : c < 10) (hn : n ≤ 40) (a : Nat) (wa : Int32) (M : zz_M) (hm : zz_i M 130 (20 + 42 * c + 1) = nI n) : ∀ (d k : Nat) (i : Nat), d < k → i + d = n → b_X9_grams_5 k a (nI c) wa (ms_sum (fun j => ms_gr wa (zz_i M 130 (20 + 42 * c + 2 + j))) i) (nI i) M = some (ms_sum (fun j => ms_gr wa (zz_i M 130 (20 + 42 * c + 2 + j))) n, M)
  | 0, k + 1, i, _, hi => by
    have : i = n := by omega
    subst this
    unfold b_X9_grams_5
    rw [e_X9_many hc, zz_bd_some, hm, if_pos (nI_le (Nat.le_refl _) (by omega))]
  | d + 1, k + 1, i, hd, hi => by
    unfold b_X9_grams_5
    rw [e_X9_many hc, zz_bd_some, hm, if_neg (nI_ge (by omega) (by omega)), e_X9_layerOf hc (i := i) (by omega) rfl, zz_bd_some]
    have ih := e_X9_grams5 hc hn a wa M hm d k (i + 1) (by omega) (by omega)
    have e : ∀ st0 : Int32, ms_gr wa (zz_i M 130 (20 + 42 * c + 2 + i)) = st0 → b_X9_grams_46 (b_X9_grams_5 k) a (nI c) wa (nI i) st0 (ms_sum (fun j => ms_gr wa (zz_i M 130 (20 + 42 * c + 2 + j))) i) M = some (ms_sum (fun j => ms_gr wa (zz_i M 130 (20 + 42 * c + 2 + j))) n, M) := by
      intro st0 h
      rw [b_X9_grams_46, me_wr, me_wr, nI_1, ← h]
      exact ih
    by_cases h0 : 0 ≤ zz_i M 130 (20 + 42 * c + 2 + i)
    · rw [if_pos h0]
      by_cases hw : wa = 0
      · rw [if_pos hw]
        exact e _ (by rw [ms_gr, if_pos h0, if_pos hw])
      · rw [if_neg hw]
        exact e _ (by rw [ms_gr, if_pos h0, if_neg hw])
    · rw [if_neg h0]
      exact e _ (by rw [ms_gr, if_neg h0])
theorem ms_tal_sum {M : zz_M} {r off : Nat} : ∀ {L : List Int32}, ms_RL M r off L → ms_sum (fun j => ms_gr 0 (zz_i M r (off + j))) L.length = ms_tal L + ms_wax L ∧ ms_sum (fun j => ms_gr 1 (zz_i M r (off + j))) L.length = ms_wax L
  | [], _ => ⟨show (0 : Int32) = 0 + 0 by decide, rfl⟩
  | t :: L, h => by
    obtain ⟨h1, h2⟩ := ms_tal_sum h.2
    simp only [List.length_cons, ms_sum, h1, h2, h.1, ms_tal, ms_wax]
    generalize ms_tal L = A
    generalize ms_wax L = B
    unfold ms_gr
    rw [if_pos (Eq.refl (0 : Int32)), if_neg (show ¬ (1 : Int32) = 0 by decide)]
    constructor
    · split <;> grind
    · split <;> grind
theorem e_X9_grams {M : zz_M} {c : Nat} {kd : Int32} {L : List Int32} (hc : c < 10) (hK : ms_KM M 130 (20 + 42 * c) kd L) (a : Nat) : f_X9_grams a (nI c) 0 M = some (ms_tal L + ms_wax L, M) ∧ f_X9_grams a (nI c) 1 M = some (ms_wax L, M) := by
  obtain ⟨k0, k1, kL, kok⟩ := hK
  have hl := kok.1
  have hs := ms_tal_sum kL
  constructor
  · rw [← hs.1]
    exact e_X9_grams5 hc hl a 0 M k1 L.length zz_fuel 0 (show L.length < 5000 by omega) (by omega)
  · rw [← hs.2]
    exact e_X9_grams5 hc hl a 1 M k1 L.length zz_fuel 0 (show L.length < 5000 by omega) (by omega)
theorem e_X9_burnsAs (kd p : Int32) (M : zz_M) : f_X9_burnsAs kd p M = some (ms_mins kd p, M) := by
  unfold f_X9_burnsAs ms_mins
  by_cases h1 : kd = 1
  · rw [if_pos h1, if_pos h1]
  rw [if_neg h1, if_neg h1]
  by_cases h2 : kd = 2
  · rw [if_pos h2, if_pos h2]
  rw [if_neg h2, if_neg h2]
  by_cases h3 : kd = 3
  · rw [if_pos h3, if_pos h3]
    split <;> split <;> first | rfl | (congr 2; grind)
  rw [if_neg h3, if_neg h3]
  by_cases h4 : kd = 4
  · rw [if_pos h4, if_pos h4]
  rw [if_neg h4, if_neg h4]
  split <;> rfl
theorem e_X9_burnsOf {M : zz_M} {c : Nat} {kd : Int32} {L : List Int32} (hc : c < 10) (hK : ms_KM M 130 (20 + 42 * c) kd L) (a : Nat) : f_X9_burnsOf a (nI c) M = some (ms_mn kd L, M) := by
  rw [f_X9_burnsOf, (e_X9_grams hc hK a).2, zz_bd_some, e_X9_kindOf hc, zz_bd_some, (e_X9_grams hc hK a).1, zz_bd_some, e_X9_burnsAs, zz_bd_some, hK.1, ms_mn]
  congr 3
  grind
theorem e_X9_takesAt {M : zz_M} {c : Nat} (hc : c < 10) (a : Nat) (w : Int32) : f_X9_takesAt a (nI c) w M = some (ms_gain (zz_i M 130 (20 + 42 * c)) (zz_i M 130 (20 + 42 * c + 1)) w, M) := by
  have hp := ms_plain_cases w
  unfold f_X9_takesAt ms_gain
  simp only [e_X9_plain, e_X9_kindOf hc, e_X9_many hc, zz_bd_some]
  generalize zz_i M 130 (20 + 42 * c) = kd
  generalize zz_i M 130 (20 + 42 * c + 1) = sz
  rcases hp with h | h | h | h <;> rw [h] <;> (repeat' split) <;> simp_all
theorem e_X9_holdsMore {v : Nat} (hv : v < 4) (g : Int32) (a : Nat) (M : zz_M) : f_X9_holdsMore a (nI v) g M = some ((), zz_si M 130 (4 + 4 * v + 2) (ms_more (zz_i M 130 (4 + 4 * v + 2)) g)) := by
  rw [f_X9_holdsMore, e_X9_its hv (k := 2) (x := 2) (by omega) rfl, zz_bd_some, me_wr, ms_more]
  split
  · rw [e_X9_setVat hv (k := 2) (x := 2) (by omega) rfl, zz_bd_some, if_neg (by grind)]
  · rw [e_X9_setVat hv (k := 2) (x := 2) (by omega) rfl, zz_bd_some, if_pos (by grind)]
/-- what changes in the row alone -/
def mr_same (P : Nat → Prop) (M M' : zz_M) : Prop := me_same (fun q => q = 130) M M' ∧ ∀ j, ¬ P j → zz_i M' 130 j = zz_i M 130 j
theorem mr_same.rf {P : Nat → Prop} {M : zz_M} : mr_same P M M := ⟨me_same.rf, fun _ _ => rfl⟩
theorem mr_same.tr {P : Nat → Prop} {M M1 M2 : zz_M} (h1 : mr_same P M M1) (h2 : mr_same P M1 M2) : mr_same P M M2 := ⟨h1.1.tr h2.1, fun j h => (h2.2 j h).trans (h1.2 j h)⟩
theorem mr_same.wk {P Q : Nat → Prop} {M M1 : zz_M} (h : mr_same P M M1) (hPQ : ∀ j, P j → Q j) : mr_same Q M M1 := ⟨h.1, fun j q => h.2 j (fun z => q (hPQ j z))⟩
theorem mr_same.si {P : Nat → Prop} {M : zz_M} {k : Nat} {v : Int32} (h : P k) : mr_same P M (zz_si M 130 k v) := ⟨me_same.s1, fun j hj => me_ine (fun e => hj (e.2 ▸ h))⟩
theorem mr_same.at {P : Nat → Prop} {M M' : zz_M} (h : mr_same P M M') {j : Nat} (hj : ¬ P j) : zz_i M' 130 j = zz_i M 130 j := h.2 j hj
theorem mr_same.ot {P : Nat → Prop} {M M' : zz_M} (h : mr_same P M M') {q : Nat} (hq : q ≠ 130) : zz_i M' q = zz_i M q := h.1.1 q hq
theorem mr_same.j {P : Nat → Prop} {M M' : zz_M} (h : mr_same P M M') : zz_j M' = zz_j M := h.1.2
/-- grams come off -/
theorem e_X9_off2 {c : Nat} (hc : c < 10) {kd g0 : Int32} (hg0 : g0 ≤ 1000) (a : Nat) : ∀ (L : List Int32) (n : Nat) (M : zz_M) (g : Int32), L.length < n → ms_KM M 130 (20 + 42 * c) kd L → 0 ≤ g → g ≤ g0 →
    ∃ M' : zz_M, b_X9_comesOff_2 n a (nI c) g0 g M = some (g0 - (g - (ms_lose L g).2), M') ∧ ms_KM M' 130 (20 + 42 * c) kd (ms_lose L g).1 ∧ mr_same (fun j => 20 + 42 * c < j ∧ j < 20 + 42 * c + 42) M M'
  | [], n + 1, M, g, _, hK, h0, h1 => by
    refine ⟨M, ?_, hK, mr_same.rf⟩
    have k1 : zz_i M 130 (20 + 42 * c + 1) = 0 := hK.2.1
    unfold b_X9_comesOff_2
    rw [e_X9_many hc, zz_bd_some, k1, if_pos (show (0 : Int32) ≤ 0 by decide)]
    simp only [ms_lose]
    split <;> (congr 2; grind)
  | t :: L, n + 1, M, g, hn, hK, h0, h1 => by
    obtain ⟨k0, k1, ⟨kt, kL⟩, kok⟩ := id hK
    have hlen : L.length < 40 := kok.1
    have ht := kok.head
    have hta := ht.abs
    rw [List.length_cons] at k1
    unfold b_X9_comesOff_2 ms_lose
    by_cases hg : g ≤ 0
    · rw [if_pos hg, if_pos hg]
      exact ⟨M, by congr 2; grind, hK, mr_same.rf⟩
    rw [if_neg hg, if_neg hg, e_X9_many hc, zz_bd_some, k1, if_neg (nI_nle (by omega) (by omega)), e_X9_many hc, zz_bd_some, k1, e_X9_layerOf hc (i := L.length) hlen (nI_pred _), zz_bd_some, kt]
    have hx : (2 : Int32) + nI (L.length + 1) - 1 = nI (2 + L.length) := by
      rw [show (2 : Int32) = nI 2 from rfl, nI_add, show 2 + (L.length + 1) = (2 + L.length) + 1 by omega, nI_pred]
    have e1 : 20 + 42 * c + (2 + L.length) = 20 + 42 * c + 2 + L.length := by omega
    have hth := ht.thin (g := g) (by grind)
    -- a layer is thinned by x (x6 = off)
    have step : ∀ x : Int32, (x = ms_abs t ∧ ms_abs t ≤ g ∨ x = g ∧ ¬ ms_abs t ≤ g) → ∃ M', b_X9_comesOff_55 (b_X9_comesOff_2 n) a (nI c) g0 g t (ms_abs t) x M = some (g0 - (g - (if ms_abs t ≤ g then ((ms_lose L (g - ms_abs t)).1, ms_abs t + (ms_lose L (g - ms_abs t)).2) else (ms_thn t g :: L, g)).2), M') ∧ ms_KM M' 130 (20 + 42 * c) kd (if ms_abs t ≤ g then ((ms_lose L (g - ms_abs t)).1, ms_abs t + (ms_lose L (g - ms_abs t)).2) else (ms_thn t g :: L, g)).1 ∧ mr_same (fun j => 20 + 42 * c < j ∧ j < 20 + 42 * c + 42) M M' := by
      intro x hx'
      have go : ∀ y : Int32, (¬ ms_abs t ≤ g → y = ms_thn t g) → ∃ M', b_X9_comesOff_92 (b_X9_comesOff_2 n) a (nI c) g0 g (ms_abs t) x y (nI (20 + 42 * c + (2 + L.length))) 130 M = some (g0 - (g - (if ms_abs t ≤ g then ((ms_lose L (g - ms_abs t)).1, ms_abs t + (ms_lose L (g - ms_abs t)).2) else (ms_thn t g :: L, g)).2), M') ∧ ms_KM M' 130 (20 + 42 * c) kd (if ms_abs t ≤ g then ((ms_lose L (g - ms_abs t)).1, ms_abs t + (ms_lose L (g - ms_abs t)).2) else (ms_thn t g :: L, g)).1 ∧ mr_same (fun j => 20 + 42 * c < j ∧ j < 20 + 42 * c + 42) M M' := by
        intro y hy
        unfold b_X9_comesOff_92 b_X9_comesOff_116
        rw [if_pos (me_in (by omega) (by decide)), me_wr, me_n (by omega), e_X9_at c 1 (x := 1) rfl, zz_bd_some, if_pos (me_in (by omega) (by decide)), me_n (by omega)]
        simp (disch := omega) only [me_ine, k1]
        rw [if_pos (me_in (by omega) (by decide))]
        rcases hx' with ⟨hx1, hx2⟩ | ⟨hx1, hx2⟩
        · rw [if_pos hx1, if_pos hx2, me_wr, me_wr, nI_pred, hx1]
          have hK1 : ms_KM (zz_si (zz_si M 130 (20 + 42 * c + (2 + L.length)) y) 130 (20 + 42 * c + 1) (nI L.length)) 130 (20 + 42 * c) kd L := by
            refine ⟨?_, ?_, kL.congr (fun j hj => ?_), kok.tail⟩
            · simp (disch := omega) only [me_hit, me_ine, k0]
            · simp (disch := omega) only [me_hit]
            · simp (disch := omega) only [me_ine]
          obtain ⟨M2, hM2, hK2, hS2⟩ := e_X9_off2 hc hg0 a L n _ (g - ms_abs t) (by simp only [List.length_cons] at hn; omega) hK1 (by grind) (by grind)
          refine ⟨M2, ?_, hK2, ((mr_same.si (by omega)).tr (mr_same.si (by omega))).tr hS2⟩
          rw [hM2]
          congr 2
          grind
        · rw [if_neg (by grind), if_neg hx2, me_wr, me_wr, hx1]
          have e3 : nI (L.length + 1) - 0 = nI (L.length + 1) := by grind
          rw [e3]
          have hK1 : ms_KM (zz_si (zz_si M 130 (20 + 42 * c + (2 + L.length)) y) 130 (20 + 42 * c + 1) (nI (L.length + 1))) 130 (20 + 42 * c) kd (ms_thn t g :: L) := by
            refine ⟨?_, ?_, ⟨?_, kL.congr (fun j hj => ?_)⟩, kok.tail.cons hlen (hth hx2)⟩
            · simp (disch := omega) only [me_hit, me_ine, k0]
            · simp (disch := omega) only [me_hit]; rfl
            · rw [me_ine (by omega), me_hit rfl (by omega)]; exact hy hx2
            · simp (disch := omega) only [me_ine]
          refine ⟨_, ?_, hK1, (mr_same.si (by omega)).tr (mr_same.si (by omega))⟩
          rcases n with _ | n
          · simp only [List.length_cons] at hn; omega
          · have e0 : g - g = 0 := by grind
            unfold b_X9_comesOff_2
            rw [e0, if_pos (show (0 : Int32) ≤ 0 by decide)]
            exact if_pos (me_in (by omega) (by decide))
      unfold b_X9_comesOff_55
      rw [e_X9_many hc, zz_bd_some, k1, hx, e_X9_at c (2 + L.length) rfl, zz_bd_some]
      by_cases hs : 0 ≤ t
      · rw [if_pos hs]
        refine go _ (fun q => ?_)
        rcases hx' with ⟨_, z⟩ | ⟨z, _⟩
        · exact absurd z q
        · rw [ms_thn, if_pos hs, z]
      · rw [if_neg hs]
        refine go _ (fun q => ?_)
        rcases hx' with ⟨_, z⟩ | ⟨z, _⟩
        · exact absurd z q
        · rw [ms_thn, if_neg hs, z]
    have st41 : ∃ M', b_X9_comesOff_41 (b_X9_comesOff_2 n) a (nI c) g0 g t (ms_abs t) M = some (g0 - (g - (if ms_abs t ≤ g then ((ms_lose L (g - ms_abs t)).1, ms_abs t + (ms_lose L (g - ms_abs t)).2) else (ms_thn t g :: L, g)).2), M') ∧ ms_KM M' 130 (20 + 42 * c) kd (if ms_abs t ≤ g then ((ms_lose L (g - ms_abs t)).1, ms_abs t + (ms_lose L (g - ms_abs t)).2) else (ms_thn t g :: L, g)).1 ∧ mr_same (fun j => 20 + 42 * c < j ∧ j < 20 + 42 * c + 42) M M' := by
      unfold b_X9_comesOff_41
      by_cases q : ms_abs t ≤ g
      · rw [if_pos q]; exact step _ (Or.inl ⟨rfl, q⟩)
      · rw [if_neg q]; exact step _ (Or.inr ⟨rfl, q⟩)
    by_cases hs : 0 ≤ t
    · rw [if_pos hs]
      have : ms_abs t = t := if_pos hs
      rw [this] at st41 ⊢
      exact st41
    · rw [if_neg hs]
      have : ms_abs t = -t := by rw [ms_abs, if_neg hs]; grind
      rw [this] at st41 ⊢
      exact st41
theorem e_X9_off {M : zz_M} {c : Nat} (hc : c < 10) {kd g : Int32} {L : List Int32} (hK : ms_KM M 130 (20 + 42 * c) kd L) (h0 : 0 ≤ g) (h1 : g ≤ 1000) (a : Nat) :
    ∃ M' : zz_M, f_X9_comesOff a (nI c) g M = some ((ms_lose L g).2, M') ∧ ms_KM M' 130 (20 + 42 * c) kd (ms_lose L g).1 ∧ mr_same (fun j => 20 + 42 * c < j ∧ j < 20 + 42 * c + 42) M M' := by
  have hlen := hK.2.2.2.1
  obtain ⟨M', h, hK', hS⟩ := e_X9_off2 hc h1 a L zz_fuel M g (show L.length < 5000 by omega) hK h0 (by grind)
  refine ⟨M', ?_, hK', hS⟩
  rw [f_X9_comesOff, h]
  congr 2
  grind
theorem e_X9_cool {v : Nat} (hv : v < 4) (a : Nat) {M : zz_M} (h0 : 0 ≤ zz_i M 130 (4 + 4 * v + 1)) : b_X9_dips_140 a (nI v) M = some ((), zz_si M 130 (4 + 4 * v + 1) (ms_cool (zz_i M 130 (4 + 4 * v + 1)))) := by
  rw [b_X9_dips_140, e_X9_its hv (k := 1) (x := 1) (by omega) rfl, zz_bd_some, ms_cool]
  split
  · rw [e_X9_setVat hv (k := 1) (x := 1) (by omega) rfl, zz_bd_some, if_neg (by grind)]
  · rw [e_X9_setVat hv (k := 1) (x := 1) (by omega) rfl, zz_bd_some, if_pos (by grind)]
/-- a dip in the reference -/
theorem e_X9_dips {M : zz_M} {c v : Nat} {kd wx wm ho : Int32} {L : List Int32} (hc : c < 10) (hv : v < 4) (hK : ms_KM M 130 (20 + 42 * c) kd L) (h0 : zz_i M 130 (4 + 4 * v) = wx) (h1 : zz_i M 130 (4 + 4 * v + 1) = wm) (h2 : zz_i M 130 (4 + 4 * v + 2) = ho) (hw : ms_vok wx wm ho) (a : Nat) :
    ∃ M' : zz_M, f_X9_dips a (nI c) (nI v) M = some ((), M') ∧ ms_KM M' 130 (20 + 42 * c) kd (ms_dip kd L wx wm ho).1 ∧ zz_i M' 130 (4 + 4 * v + 1) = (ms_dip kd L wx wm ho).2.1 ∧ zz_i M' 130 (4 + 4 * v + 2) = (ms_dip kd L wx wm ho).2.2 ∧ mr_same (fun j => 20 + 42 * c < j ∧ j < 20 + 42 * c + 42 ∨ j = 4 + 4 * v + 1 ∨ j = 4 + 4 * v + 2) M M' := by
  obtain ⟨v1, v2, v3, v4, v5⟩ := hw
  obtain ⟨k0, k1, kL, kok⟩ := id hK
  have hgb := ms_gain_b (kd := kd) (w := wm) kok.1
  have hlen := kok.1
  unfold f_X9_dips ms_dip
  rw [e_X9_many hc, zz_bd_some, k1]
  by_cases hl : L.length = 40
  · rw [if_pos (by rw [hl]; rfl), if_pos hl]
    exact ⟨M, rfl, hK, h1, h2, mr_same.rf⟩
  rw [if_neg (by rw [show (40 : Int32) = nI 40 from rfl, nI_eq (by omega) (by omega)]; exact hl), if_neg hl, e_X9_its hv (k := 1) (x := 1) (by omega) rfl, zz_bd_some, e_X9_takesAt hc, zz_bd_some, h1, k0, k1]
  generalize ms_gain kd (nI L.length) wm = t at hgb ⊢
  by_cases ht : t ≤ 0
  · rw [if_pos ht, if_neg (by grind)]
    obtain ⟨M1, hM1, hK1, hS1⟩ := e_X9_off hc (g := -t) hK (by grind) (by grind) a
    have b1 : zz_i M1 130 (4 + 4 * v + 1) = zz_i M 130 (4 + 4 * v + 1) := hS1.at (by omega)
    have b2 : zz_i M1 130 (4 + 4 * v + 2) = zz_i M 130 (4 + 4 * v + 2) := hS1.at (by omega)
    rw [hM1, zz_bd_some, e_X9_holdsMore hv, zz_bd_some, e_X9_cool hv a (by rw [me_ine (by omega), b1, h1]; exact v2), me_ine (by omega), b1, b2, h1, h2]
    refine ⟨_, rfl, ?_, ?_, ?_, ?_⟩
    · exact hK1.fr (fun j _ _ => by simp (disch := omega) only [me_ine])
    · simp (disch := omega) only [me_hit, me_ine]
    · simp (disch := omega) only [me_hit, me_ine]
    · exact (hS1.wk (fun j hj => Or.inl hj)).tr ((mr_same.si (Or.inr (Or.inr rfl))).tr (mr_same.si (Or.inr (Or.inl rfl))))
  · rw [if_neg ht, if_pos (by grind), e_X9_its hv (k := 2) (x := 2) (by omega) rfl, zz_bd_some, h2]
    have core : ∀ g : Int32, g = ms_min t ho → ∃ M' : zz_M, b_X9_dips_47 a (nI c) (nI v) g M = some ((), M') ∧ ms_KM M' 130 (20 + 42 * c) kd (if 0 < ms_min t ho then ms_lay wx (ms_min t ho) :: L else L) ∧ zz_i M' 130 (4 + 4 * v + 1) = ms_cool wm ∧ zz_i M' 130 (4 + 4 * v + 2) = ho - ms_min t ho ∧ mr_same (fun j => 20 + 42 * c < j ∧ j < 20 + 42 * c + 42 ∨ j = 4 + 4 * v + 1 ∨ j = 4 + 4 * v + 2) M M' := by
      intro g hg
      rw [← hg]
      have hg0 : 0 ≤ g := by rw [hg, ms_min]; grind
      have hg1 : g ≤ 100 := by rw [hg, ms_min]; grind
      have hx : (2 : Int32) + nI L.length = nI (2 + L.length) := by rw [show (2 : Int32) = nI 2 from rfl, nI_add]
      unfold b_X9_dips_47
      rw [e_X9_its hv (k := 2) (x := 2) (by omega) rfl, zz_bd_some, e_X9_setVat hv (k := 2) (x := 2) (by omega) rfl, zz_bd_some, e_X9_many hc, zz_bd_some, me_ine (by omega), k1, hx, e_X9_at c (2 + L.length) rfl, zz_bd_some, e_X9_its hv (k := 0) (x := 0) (by omega) rfl, zz_bd_some, show 4 + 4 * v + 0 = 4 + 4 * v from rfl, me_ine (by omega), h0, h2]
      have fin : ∀ y : Int32, y = ms_lay wx g → ∃ M' : zz_M, b_X9_dips_97 a (nI c) (nI v) g y (nI (20 + 42 * c + (2 + L.length))) 130 (zz_si M 130 (4 + 4 * v + 2) (ho - g)) = some ((), M') ∧ ms_KM M' 130 (20 + 42 * c) kd (if 0 < g then ms_lay wx g :: L else L) ∧ zz_i M' 130 (4 + 4 * v + 1) = ms_cool wm ∧ zz_i M' 130 (4 + 4 * v + 2) = ho - g ∧ mr_same (fun j => 20 + 42 * c < j ∧ j < 20 + 42 * c + 42 ∨ j = 4 + 4 * v + 1 ∨ j = 4 + 4 * v + 2) M M' := by
        intro y hy
        unfold b_X9_dips_97 b_X9_dips_119
        rw [if_pos (me_in (by omega) (by decide)), me_wr, me_n (by omega), e_X9_at c 1 (x := 1) rfl, zz_bd_some, if_pos (me_in (by omega) (by decide)), me_n (by omega), if_pos (me_in (by omega) (by decide)), me_wr, me_wr]
        have last : ∀ (z : Int32) (N : List Int32), z = nI N.length → (N = L ∨ N = ms_lay wx g :: L ∧ 0 < g) → ∃ M' : zz_M, b_X9_dips_140 a (nI v) (zz_si (zz_si (zz_si M 130 (4 + 4 * v + 2) (ho - g)) 130 (20 + 42 * c + (2 + L.length)) y) 130 (20 + 42 * c + 1) z) = some ((), M') ∧ ms_KM M' 130 (20 + 42 * c) kd N ∧ zz_i M' 130 (4 + 4 * v + 1) = ms_cool wm ∧ zz_i M' 130 (4 + 4 * v + 2) = ho - g ∧ mr_same (fun j => 20 + 42 * c < j ∧ j < 20 + 42 * c + 42 ∨ j = 4 + 4 * v + 1 ∨ j = 4 + 4 * v + 2) M M' := by
          intro z N hz hN
          rw [e_X9_cool hv a (by simp (disch := omega) only [me_ine, h1]; exact v2)]
          refine ⟨_, rfl, ⟨?_, ?_, ?_, ?_⟩, ?_, ?_, ?_⟩
          · simp (disch := omega) only [me_ine, k0]
          · simp (disch := omega) only [me_ine, me_hit, hz]
          · rcases hN with rfl | ⟨rfl, _⟩
            · exact kL.congr (fun j hj => by simp (disch := omega) only [me_ine])
            · refine ⟨?_, kL.congr (fun j hj => by simp (disch := omega) only [me_ine])⟩
              rw [me_ine (by omega), me_ine (by omega), me_hit rfl (by omega), hy]
          · rcases hN with rfl | ⟨rfl, q⟩
            · exact kok
            · exact kok.cons (by omega) (ms_lay_ok q hg1)
          · simp (disch := omega) only [me_ine, me_hit, h1]
          · simp (disch := omega) only [me_ine, me_hit]
          · exact (((mr_same.si (Or.inr (Or.inr rfl))).tr (mr_same.si (Or.inl (by omega)))).tr (mr_same.si (Or.inl (by omega)))).tr (mr_same.si (Or.inr (Or.inl rfl)))
        have em : zz_i (zz_si (zz_si M 130 (4 + 4 * v + 2) (ho - g)) 130 (20 + 42 * c + (2 + L.length)) y) 130 (20 + 42 * c + 1) = nI L.length := by simp (disch := omega) only [me_ine, k1]
        rw [em]
        by_cases hz : g ≤ 0
        · rw [if_pos hz, if_neg (show ¬ 0 < g by grind)]
          exact last _ L (by grind) (Or.inl rfl)
        · rw [if_neg hz, if_pos (me_in (show 20 + 42 * c + 1 < 440 by omega) (by decide)), if_pos (show 0 < g by grind)]
          exact last _ (ms_lay wx g :: L) (nI_1 _) (Or.inr ⟨rfl, by grind⟩)
      by_cases h1w : wx = 1
      · rw [if_pos h1w]
        exact fin _ (by rw [ms_lay, if_pos h1w])
      · rw [if_neg h1w]
        exact fin _ (by rw [ms_lay, if_neg h1w])
    by_cases hq : ho ≤ t
    · rw [if_pos hq, e_X9_its hv (k := 2) (x := 2) (by omega) rfl, zz_bd_some, h2]
      exact core _ (by rw [ms_min]; grind)
    · rw [if_neg hq]
      exact core _ (by rw [ms_min]; grind)
