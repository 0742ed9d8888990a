/-! THE CLAIM OUT OF ONE WALK OF THE LAW'S BODY. Your part is whole_start (and what it stands on); all else here is the same for every law, but numbers. -/
def R_law : String := "FortyDipsLaw"
def lw_P (b : Addr) (xs : List Int32) (args : Array Value) (s : State) : Prop := args = #[.ref b] ∧ s.IntsAt b xs ∧ xs.length ≤ 3072 ∧ (Jvm.Cond.and given_1 narrow_1).before args s = true
def lw_Q (_ : Array Value) (s : State) (o : Outcome) (t : State) : Prop := o = .returned (some (.int 1)) ∧ Framed s o t [] 600000 7302250
def lw_Z (below : List Frame) (a : Array Value) (s : State) : State → Prop := fun t => ∃ o, t.status = .running ∧ Ended t below o ∧ lw_Q a s o t
/-- the law's own end, with 1 on the stack, nothing written that was there before, its room as the claim has it -/
theorem lw_ret {p : Program} {l : Launch} {e : Env} {s : State} {m : MethodId} {below : List Frame} {meth : Method} {c : Code} {b : Nat} (hx : p.tables.exec = Jvm.exec) (hb : c.code = code) (hr : meth.sig.returnType = ret) (hlocks : meth.locks = false) {pc : Nat} {H : Heap} {ls : Array Slot} (hdg : decode code pc = .ok (.ireturn, 1)) : W p l e room_1 s m #[Value.ref b] below meth c H [] 600000 7302250 (lw_Z below #[Value.ref b] s) (F0 m pc ls [.int 1]) := by
  intro T hT X
  obtain ⟨fs, hret, hrun, hended, hW, hframe⟩ := X.leave (v := some (.int 1)) (hlocks := hlocks) (fun h => by rw [hr] at h; cases h)
  have hmeth' : T.vm.method? m = some meth := X.method'
  refine ⟨T.setFrames fs, ?_, .returned (some (.int 1)), hrun, hended, rfl, ⟨_, rfl⟩, hW, hframe⟩
  jvm_step X.here [X.here.top, hx, hb, hdg, hmeth', hr, ret, narrow_b1]
  (try refine ⟨rfl, ?_⟩); (try refine ⟨rfl, ?_⟩)
  first | (intro acts; rw [hret _ acts rfl rfl rfl]) | rw [hret _ _ rfl rfl rfl]
  exact Steps.refl _
/-- what holds at the law's entry: the machine, the code, the tables' words (any of lw_tbl by 'hts w (by decide +kernel)'), the script of L ints xs at the cell b, what the Statement gives of the start (any of its parts by flat_of_before) -/
def lw_At (p : Program) (s : State) (m : MethodId) (meth : Method) (c : Code) (b L : Nat) (xs : Nat → Int32) : Prop :=
  p.tables.exec = Jvm.exec ∧ c.code = code ∧ meth.sig.returnType = ret ∧ c.maxLocals = 4 ∧ s.vm.findClass R_law = some m.cls ∧ (∀ w ∈ lw_tbl, w.before #[Value.ref b] s = true) ∧ va_X b L xs s s.heap ∧ b < s.heap.size ∧ meth.locks = false ∧ (Jvm.Cond.and given_1 narrow_1).before #[Value.ref b] s = true
/-- the parts of what the Statement gives of the start -/
abbrev zw_fl : List Cond := flatC (Jvm.Cond.and given_1 narrow_1)
def zw_tm (i : Nat) : Term := .string "FortyDips$Text" (zz_str.getD i (0, "")).1
set_option maxRecDepth 100000 in
theorem zw_ex : ∀ i, i < 17 → Cond.exactly (zw_tm i) "java/lang/String" ∈ zw_fl := by decide +kernel
set_option maxRecDepth 100000 in
theorem zw_co : ∀ i, i < 17 → Cond.eq (.field (zw_tm i) "java/lang/String" "coder" "B") (.int 0) ∈ zw_fl := by decide +kernel
set_option maxRecDepth 100000 in
theorem zw_ar : ∀ i, i < 17 → Cond.arrayOf (.field (zw_tm i) "java/lang/String" "value" "[B") .byte ∈ zw_fl := by decide +kernel
set_option maxRecDepth 100000 in
theorem zw_le : ∀ i, i < 17 → Cond.eq (.length (.field (zw_tm i) "java/lang/String" "value" "[B")) (.int (Int32.ofNat (zz_len.getD i 0))) ∈ zw_fl := by decide +kernel
set_option maxRecDepth 100000 in
theorem zw_el : ∀ i, i < 17 → ∀ j, j < zz_len.getD i 0 → Cond.eq (.elem (.field (zw_tm i) "java/lang/String" "value" "[B") (.int (Int32.ofNat j))) (.int ((zz_byt.getD i []).getD j 0)) ∈ zw_fl := by decide +kernel
def zw_pr0 : List (Nat × Nat) := [(0, 1), (0, 2), (1, 2), (0, 3), (1, 3), (2, 3), (0, 4), (1, 4), (2, 4), (3, 4), (0, 5), (1, 5), (2, 5), (3, 5), (4, 5), (0, 6), (1, 6), (2, 6), (3, 6), (4, 6), (5, 6), (0, 10), (1, 10), (2, 10), (3, 10), (4, 10), (5, 10), (6, 10), (0, 11), (1, 11), (2, 11), (3, 11), (4, 11), (5, 11)]
set_option maxRecDepth 100000 in
theorem zw_nl0 : ∀ w ∈ zw_pr0.map (fun q => Cond.not (Cond.eq (zw_tm q.1) (zw_tm q.2))), w ∈ zw_fl := li_of [73, 83, 84, 93, 94, 95, 107, 108, 109, 110, 121, 122, 123, 124, 125, 133, 134, 135, 136, 137, 138, 149, 150, 151, 152, 153, 154, 155, 163, 164, 165, 166, 167, 168] (by decide +kernel)
def zw_pr1 : List (Nat × Nat) := [(6, 11), (10, 11), (0, 12), (1, 12), (2, 12), (3, 12), (4, 12), (5, 12), (6, 12), (10, 12), (11, 12), (0, 13), (1, 13), (2, 13), (3, 13), (4, 13), (5, 13), (6, 13), (10, 13), (11, 13), (12, 13), (0, 14), (1, 14), (2, 14), (3, 14), (4, 14), (5, 14), (6, 14), (10, 14), (11, 14), (12, 14), (13, 14), (0, 15), (1, 15)]
set_option maxRecDepth 100000 in
theorem zw_nl1 : ∀ w ∈ zw_pr1.map (fun q => Cond.not (Cond.eq (zw_tm q.1) (zw_tm q.2))), w ∈ zw_fl := li_of [169, 170, 179, 180, 181, 182, 183, 184, 185, 186, 187, 197, 198, 199, 200, 201, 202, 203, 204, 205, 206, 215, 216, 217, 218, 219, 220, 221, 222, 223, 224, 225, 234, 235] (by decide +kernel)
def zw_pr2 : List (Nat × Nat) := [(2, 15), (3, 15), (4, 15), (5, 15), (6, 15), (10, 15), (11, 15), (12, 15), (13, 15), (14, 15), (0, 7), (1, 7), (2, 7), (3, 7), (4, 7), (5, 7), (6, 7), (10, 7), (11, 7), (12, 7), (13, 7), (14, 7), (15, 7), (0, 16), (1, 16), (2, 16), (3, 16), (4, 16), (5, 16), (6, 16), (10, 16), (11, 16), (12, 16), (13, 16)]
set_option maxRecDepth 100000 in
theorem zw_nl2 : ∀ w ∈ zw_pr2.map (fun q => Cond.not (Cond.eq (zw_tm q.1) (zw_tm q.2))), w ∈ zw_fl := li_of [236, 237, 238, 239, 240, 241, 242, 243, 244, 245, 253, 254, 255, 256, 257, 258, 259, 260, 261, 262, 263, 264, 265, 272, 273, 274, 275, 276, 277, 278, 279, 280, 281, 282] (by decide +kernel)
def zw_pr3 : List (Nat × Nat) := [(14, 16), (15, 16), (7, 16), (0, 8), (1, 8), (2, 8), (3, 8), (4, 8), (5, 8), (6, 8), (10, 8), (11, 8), (12, 8), (13, 8), (14, 8), (15, 8), (7, 8), (16, 8), (0, 9), (1, 9), (2, 9), (3, 9), (4, 9), (5, 9), (6, 9), (10, 9), (11, 9), (12, 9), (13, 9), (14, 9), (15, 9), (7, 9), (16, 9), (8, 9)]
set_option maxRecDepth 100000 in
theorem zw_nl3 : ∀ w ∈ zw_pr3.map (fun q => Cond.not (Cond.eq (zw_tm q.1) (zw_tm q.2))), w ∈ zw_fl := li_of [283, 284, 285, 294, 295, 296, 297, 298, 299, 300, 301, 302, 303, 304, 305, 306, 307, 308, 320, 321, 322, 323, 324, 325, 326, 327, 328, 329, 330, 331, 332, 333, 334, 335] (by decide +kernel)
theorem zw_pin : ∀ q ∈ zw_pr0 ++ (zw_pr1 ++ (zw_pr2 ++ zw_pr3)), Cond.not (Cond.eq (zw_tm q.1) (zw_tm q.2)) ∈ zw_fl := by
  intro q hq
  rcases List.mem_append.mp hq with h | h
  · exact zw_nl0 _ (List.mem_map_of_mem h)
  rcases List.mem_append.mp h with h | h
  · exact zw_nl1 _ (List.mem_map_of_mem h)
  rcases List.mem_append.mp h with h | h
  · exact zw_nl2 _ (List.mem_map_of_mem h)
  · exact zw_nl3 _ (List.mem_map_of_mem h)
theorem zw_pallb : ((List.range 17).all fun i => (List.range 17).all fun j => i == j || (zw_pr0 ++ (zw_pr1 ++ (zw_pr2 ++ zw_pr3))).any (fun q => q.1 == i && q.2 == j) || (zw_pr0 ++ (zw_pr1 ++ (zw_pr2 ++ zw_pr3))).any (fun q => q.1 == j && q.2 == i)) = true := by decide +kernel
theorem zw_pall : ∀ i, i < 17 → ∀ j, j < 17 → i ≠ j → (i, j) ∈ zw_pr0 ++ (zw_pr1 ++ (zw_pr2 ++ zw_pr3)) ∨ (j, i) ∈ zw_pr0 ++ (zw_pr1 ++ (zw_pr2 ++ zw_pr3)) := by
  intro i hi j hj hij
  have h := List.all_eq_true.mp (List.all_eq_true.mp zw_pallb i (List.mem_range.mpr hi)) j (List.mem_range.mpr hj)
  generalize zw_pr0 ++ (zw_pr1 ++ (zw_pr2 ++ zw_pr3)) = P at h ⊢
  simp only [Bool.or_eq_true, beq_iff_eq, List.any_eq_true, Bool.and_eq_true] at h
  rcases h with (h | ⟨q, h1, h2, h3⟩) | ⟨q, h1, h2, h3⟩
  · exact absurd h hij
  · left; rw [← h2, ← h3]; exact h1
  · right; rw [← h2, ← h3]; exact h1
theorem zw_ne : ∀ i, i < 17 → ∀ j, j < 17 → i ≠ j → (Cond.not (Cond.eq (zw_tm i) (zw_tm j)) ∈ zw_fl ∨ Cond.not (Cond.eq (zw_tm j) (zw_tm i)) ∈ zw_fl) := fun i hi j hj hij => (zw_pall i hi j hj hij).imp (zw_pin _) (zw_pin _)
set_option maxRecDepth 100000 in
theorem zw_sr : ∀ i, i < 17 → Cond.stringRef "FortyDips$Text" (zz_str.getD i (0, "")).1 (zz_str.getD i (0, "")).2 ∈ tables_1 := by decide +kernel
set_option maxRecDepth 100000 in
theorem zw_mo : (Cond.arrayOf (.static "FortyDips" "MOST_OF_VAT" "[I") .int ∈ zw_fl ∧ Cond.eq (.length (.static "FortyDips" "MOST_OF_VAT" "[I")) (.int 4) ∈ zw_fl) ∧ ∀ j, j < 4 → Cond.eq (.elem (.static "FortyDips" "MOST_OF_VAT" "[I") (.int (Int32.ofNat j))) (.int (zz_mov.getD j 0)) ∈ zw_fl := by decide +kernel
set_option maxRecDepth 100000 in
theorem zw_ka : (Cond.arrayOf (.static "FortyDips" "KIND_ABOVE" "[I") .int ∈ zw_fl ∧ Cond.eq (.length (.static "FortyDips" "KIND_ABOVE" "[I")) (.int 6) ∈ zw_fl) ∧ ∀ j, j < 6 → Cond.eq (.elem (.static "FortyDips" "KIND_ABOVE" "[I") (.int (Int32.ofNat j))) (.int (zz_kab.getD j 0)) ∈ zw_fl := by decide +kernel
set_option maxRecDepth 100000 in
theorem zw_cs : Cond.eq (.static "java/lang/String" "COMPACT_STRINGS" "Z") (.int 1) ∈ zw_fl ∧ Cond.isRef (.static "jdk/internal/util/Preconditions" "SIOOBE_FORMATTER" "Ljava/util/function/BiFunction;") ∈ zw_fl := by decide +kernel
set_option maxRecDepth 100000 in
theorem zw_tb : ∀ w ∈ [Cond.laysStatic "FortyDips" "MOST_OF_VAT" "[I", Cond.laysStatic "FortyDips" "KIND_ABOVE" "[I", Cond.laysStatic "java/lang/String" "COMPACT_STRINGS" "Z", Cond.laysStatic "jdk/internal/util/Preconditions" "SIOOBE_FORMATTER" "Ljava/util/function/BiFunction;", Cond.initialized "FortyDips", Cond.initialized "java/lang/String", Cond.initialized "jdk/internal/util/Preconditions", Cond.arrayClass .int, Cond.arrayClass .long, Cond.arrayOver (.object "FortyDips$Candle"), Cond.arrayOver (.object "FortyDips$Sheet"), Cond.arrayOver (.object "FortyDips$Vat"), Cond.methodLinkNest RX0 34 yX8_plainGain RX8, Cond.methodLinkNest RX0 38 yX8_altarGain RX8, Cond.methodLinkNest RX0 41 yX8_moreIfAny RX8, Cond.methodLinkNest RX1 36 yX8_within RX8, Cond.methodLinkNest RX3 28 yX8_within RX8, Cond.methodLinkNest RX3 28 yX8_within RX8, Cond.methodLinkNest RX7 17 yX6_init RX8, Cond.methodLinkNest RX8 39 yX6_init RX8, Cond.fieldLinkNest RX5 115 "FortyDips" "MOST_OF_VAT" "[I" "FortyDips", Cond.instantiable RX0 5, Cond.instantiable RX1 3, Cond.instantiable RX2 7, Cond.instantiable RX3 3, Cond.instantiable RX4 2, Cond.instantiable RX5 6, Cond.instantiable RX6 4, Cond.instantiable RX7 4, Cond.instantiable RX8 11, Cond.instantiable RX9 20], w ∈ tables_1 := by decide +kernel
theorem zw_AO {C : String} {s : State} (h : va_AO C s) : ∃ cA : ClassId, ArrOfT s cA (.object C) ∧ va_RA s cA (.object C) := by
  obtain ⟨comp, cA, k, h1, h2, h3, h4, h5⟩ := Cond.arrayOver_spec h
  exact ⟨cA, fun n z => ⟨fun k h => (by cases h), k, h3, comp, h4⟩, k, comp, h3, h4, h1, h5⟩
theorem zw_AC {ty : FieldType} {A : Array Value} {s : State} (h : (Cond.arrayClass ty).before A s = true) : ∃ cA : ClassId, ArrOfT s cA ty ∧ s.vm.findClass ("[" ++ ty.toString) = some cA := by
  obtain ⟨cA, kA, comp, h1, h2, h3⟩ := Cond.arrayClass_spec h
  exact ⟨cA, fun n z => ⟨fun k h => (by cases h), kA, h2, comp, h3⟩, h1⟩
set_option maxHeartbeats 4000000 in
/-- at the law's entry: an environment for the whole walk -/
theorem zw_env {p : Program} {s : State} {m : MethodId} {meth : Method} {c : Code} {b L : Nat} {xs : Nat → Int32} (C0 : lw_At p s m meth c b L xs) : ∃ E : zz_E, E.1 = s.heap.size ∧ va_K E.2.1 vwCl (zz_tys E) s ∧ zz_N s ∧ zz_O E s s.heap ∧ zk_O s := by
  obtain ⟨hx, hb, hr, hml, hown, hts, hX, hbl, hlocks, hgv⟩ := C0
  have hs := flat_of_before _ hgv
  have ht : ∀ w ∈ tables_1, w.before #[Value.ref b] s = true := fun w h => hts w (List.mem_append_right _ h)
  have q : ∀ (w : Cond) (k : Nat), _[k]? = some w → w.before #[Value.ref b] s = true := fun w k h => ht w (zw_tb w (List.mem_of_getElem? h))
  have hAO : zk_O s := ⟨va_AO.of (q _ 9 rfl), va_AO.of (q _ 10 rfl), va_AO.of (q _ 11 rfl)⟩
  have hN : zz_N s := ⟨va_Nw.of rfl (q _ 12 rfl), va_Nw.of rfl (q _ 13 rfl), va_Nw.of rfl (q _ 14 rfl), va_Nw.of rfl (q _ 15 rfl), va_Nw.of rfl (q _ 16 rfl), va_Nw.of rfl (q _ 17 rfl), va_Nw.of rfl (q _ 18 rfl), va_Nw.of rfl (q _ 19 rfl), va_Nw.of rfl (q _ 20 rfl)⟩
  have hA : ∀ a : Nat, a < s.heap.size → ¬ (fun q : Nat => s.heap.size ≤ q) a := fun a h1 h2 => absurd h1 (Nat.not_lt.mpr h2)
  obtain ⟨c0, i0, hk0⟩ := u_known (C := RX0) (T := TX0) (N := 5) (n := 5) hts inX0 (q _ 21 rfl)
  obtain ⟨c1, i1, hk1⟩ := u_known (C := RX1) (T := TX1) (N := 3) (n := 3) hts inX1 (q _ 22 rfl)
  obtain ⟨c2, i2, hk2⟩ := u_known (C := RX2) (T := TX2) (N := 7) (n := 7) hts inX2 (q _ 23 rfl)
  obtain ⟨c3, i3, hk3⟩ := u_known (C := RX3) (T := TX3) (N := 3) (n := 3) hts inX3 (q _ 24 rfl)
  obtain ⟨c4, i4, hk4⟩ := u_known (C := RX4) (T := TX4) (N := 2) (n := 2) hts inX4 (q _ 25 rfl)
  obtain ⟨c5, i5, hk5⟩ := u_known (C := RX5) (T := TX5) (N := 6) (n := 6) hts inX5 (q _ 26 rfl)
  obtain ⟨c6, i6, hk6⟩ := u_known (C := RX6) (T := TX6) (N := 4) (n := 4) hts inX6 (q _ 27 rfl)
  obtain ⟨c7, i7, hk7⟩ := u_known (C := RX7) (T := TX7) (N := 4) (n := 4) hts inX7 (q _ 28 rfl)
  obtain ⟨c8, i8, hk8⟩ := u_known (C := RX8) (T := TX8) (N := 11) (n := 11) hts inX8 (q _ 29 rfl)
  obtain ⟨c9, i9, hk9⟩ := u_known (C := RX9) (T := TX9) (N := 20) (n := 20) hts inX9 (q _ 30 rfl)
  obtain ⟨a0, ha0, hb0⟩ := zw_AC (q _ 7 rfl)
  obtain ⟨a1, ha1, hb1⟩ := zw_AC (q _ 8 rfl)
  obtain ⟨a2, ha2, hb2⟩ := zw_AO hAO.1
  obtain ⟨a3, ha3, hb3⟩ := zw_AO hAO.2.1
  obtain ⟨a4, ha4, hb4⟩ := zw_AO hAO.2.2
  obtain ⟨t0, et0, hT0⟩ := va_Tof (f := fun j => .int (zz_mov.getD j 0)) (A := fun q : Nat => s.heap.size ≤ q) (N := 4) (by decide) (hs _ zw_mo.1.1) (va_eqt (hs _ zw_mo.1.2)) (fun j hj => va_eqt (hs _ (zw_mo.2 j hj))) hA
  obtain ⟨t1, et1, hT1⟩ := va_Tof (f := fun j => .int (zz_kab.getD j 0)) (A := fun q : Nat => s.heap.size ≤ q) (N := 6) (by decide) (hs _ zw_ka.1.1) (va_eqt (hs _ zw_ka.1.2)) (fun j hj => va_eqt (hs _ (zw_ka.2 j hj))) hA
  have hZ0 := va_Zref (A := fun q : Nat => s.heap.size ≤ q) (q _ 0 rfl) (q _ 4 rfl) et0 hA
  have hZ1 := va_Zref (A := fun q : Nat => s.heap.size ≤ q) (q _ 1 rfl) (q _ 4 rfl) et1 hA
  have hZ2 := va_Zof (A := fun q : Nat => s.heap.size ≤ q) (q _ 2 rfl) (q _ 5 rfl) (va_eqt (hs _ zw_cs.1)) hA
  have hZ3 := va_Zqof (A := fun q : Nat => s.heap.size ≤ q) (q _ 3 rfl) (q _ 6 rfl) (hs _ zw_cs.2) hA
  obtain ⟨adK, adV, hSt, hev⟩ := vk_Sof (N := 17) (tm := zw_tm) (len := zz_len) (byt := zz_byt) (A := fun q : Nat => s.heap.size ≤ q) (by decide) (fun i hi => hs _ (zw_ex i hi)) (fun i hi => hs _ (zw_co i hi)) (fun i hi => hs _ (zw_ar i hi)) (fun i hi => hs _ (zw_le i hi)) (fun i hi j hj => hs _ (zw_el i hi j hj)) (fun i j hi hj hij => (zw_ne i hi j hj hij).imp (hs _) (hs _)) hA
  refine ⟨(s.heap.size, (fun k => [c0, c1, c2, c3, c4, c5, c6, c7, c8, c9].getD k 0, fun k => [i0, i1, i2, i3, i4, i5, i6, i7, i8, i9].getD k i0), (fun k => [a0, a1, a2, a3, a4].getD k 0), (fun k => [t0, t1].getD k 0), adK, adV), rfl, ⟨?_, ?_⟩, hN, ⟨hZ0, hT0, hZ1, hT1, hSt, fun i hi => vk_R.of (ht _ (zw_sr i hi)) (hev i hi), hZ2, hZ3⟩, hAO⟩
  · intro k x hx
    match k, hx with
    | 0, hx => cases hx; exact hk0
    | 1, hx => cases hx; exact hk1
    | 2, hx => cases hx; exact hk2
    | 3, hx => cases hx; exact hk3
    | 4, hx => cases hx; exact hk4
    | 5, hx => cases hx; exact hk5
    | 6, hx => cases hx; exact hk6
    | 7, hx => cases hx; exact hk7
    | 8, hx => cases hx; exact hk8
    | 9, hx => cases hx; exact hk9
    | k + 10, hx => simp at hx
  · intro k x hx
    match k, hx with
    | 0, hx => cases hx; exact ⟨ha0, hb0⟩
    | 1, hx => cases hx; exact ⟨ha1, hb1⟩
    | 2, hx => cases hx; exact ⟨ha2, hb2⟩
    | 3, hx => cases hx; exact ⟨ha3, hb3⟩
    | 4, hx => cases hx; exact ⟨ha4, hb4⟩
    | k + 5, hx => simp [zz_tys] at hx
