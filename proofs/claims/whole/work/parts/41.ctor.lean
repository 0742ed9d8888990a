def zk_candle (E : zz_E) (a : Nat) : List va_E := [.inr (0, [.int 0, .int 0, .int 0, .int 0, .ref (E.1 + (a + 1))]), .inl (E.2.2.1 0, 40, .inl (fun _ => 0))]
def zk_vat : List va_E := [.inr (6, [.int 0, .int 0, .int 0, .int 0])]
def zk_vats (E : zz_E) (a : Nat) : List va_E := [.inr (7, [.ref (E.1 + (a + 1)), .int 50, .int 2, .int 0]), .inl (E.2.2.1 4, 4, .inr (.inr (.inr (.inr (fun i => some (E.1 + (a + 1 + 1 + i))))))), .inr (6, [.int 0, .int 50, .int 2000, .int 0]), .inr (6, [.int 0, .int 50, .int 2000, .int 0]), .inr (6, [.int 0, .int 50, .int 2000, .int 0]), .inr (6, [.int 1, .int 50, .int 2000, .int 0])]
def zk_sheet (E : zz_E) (a : Nat) : List va_E := [.inr (3, [.int 0, .int 0, .ref (E.1 + (a + 1))]), .inl (E.2.2.1 1, 40, .inr (.inl (fun _ => 0)))]
def zk_tape (E : zz_E) (a : Nat) : List va_E := [.inr (4, [.ref (E.1 + (a + 1)), .int 0]), .inl (E.2.2.1 0, 120, .inl (fun _ => 0))]
def zk_crow (E : zz_E) (n a : Nat) : va_E := .inl (E.2.2.1 2, n, .inr (.inr (.inr (.inr (fun i => some (E.1 + (a + 1 + 2 * i)))))))
def zk_chand (E : zz_E) (a : Nat) : List va_E := .inr (1, [.ref (E.1 + (a + 1)), .ref (E.1 + (a + 7)), .int 0]) :: (zk_vats E (a + 1) ++ (zk_crow E 10 (a + 7) :: (zk_candle E (a + 8) ++ (zk_candle E (a + 10) ++ (zk_candle E (a + 12) ++ (zk_candle E (a + 14) ++ (zk_candle E (a + 16) ++ (zk_candle E (a + 18) ++ (zk_candle E (a + 20) ++ (zk_candle E (a + 22) ++ (zk_candle E (a + 24) ++ (zk_candle E (a + 26) ++ []))))))))))))
def zk_rows (E : zz_E) (a : Nat) : List va_E := .inr (2, [.ref (E.1 + (a + 1)), .ref (E.1 + (a + 7)), .int 0, .int 0, .int 0, .int 0, .int 0]) :: (zk_vats E (a + 1) ++ (zk_crow E 7 (a + 7) :: (zk_candle E (a + 8) ++ (zk_candle E (a + 10) ++ (zk_candle E (a + 12) ++ (zk_candle E (a + 14) ++ (zk_candle E (a + 16) ++ (zk_candle E (a + 18) ++ (zk_candle E (a + 20) ++ [])))))))))
def zk_text (E : zz_E) (a : Nat) : List va_E := .inr (5, [.ref (E.1 + 88), .ref (E.1 + (a + 1)), .int 0, .int 0, .int 0, .int 0]) :: (zk_chand E (a + 1) ++ [])

set_option maxRecDepth 100000 in
set_option maxHeartbeats 4000000 in
theorem k_X6_init (l : Launch) (E : zz_E) (pre : List va_E) (a : Nat) (ha : pre.length = a) : zk_Met l yX6_init wsX6_init 1 0 0 E (.ref (E.1 + a) :: []) (pre ++ [.inr (6, [.int 0, .int 0, .int 0, .int 0])]) (pre ++ (fun _ => zk_vat) a) := by
  refine zk_met (cc := cX6_init) (nL := 1) (ret := none) (by decide) rfl (Nat.le_of_ble_eq_true rfl) (by simp) ?_
  intro p e s m below meth c C hAO hb0 hin hr ls hl
  have C : zz_C E RX6 cX6_init 1 wsX6_init p s m _ meth c := C
  have hl : lv_has ls 1 [(0, .ref (E.1 + a))] := hl
  refine zk_eq (pre' := pre) (X' := [.inr (6, [.int 0, .int 0, .int 0, .int 0])]) (List.nil_append _) ?_
  have hl : lv_has ls 1 [(0, .ref (E.1 + (a + 0)))] := hl
  refine zk_step (fun H locs k => lv_aload_n C.1.1 C.1.2.1 dX6_init_0 rfl (lv_at hl 0 rfl) k) ?_
  refine zk_obj C (List.mem_of_getElem? (i := 1) rfl) (List.mem_of_getElem? (i := 2) rfl) (List.mem_of_getElem? (i := 3) rfl) hl.1 dX6_init_1 (Nat.le_of_ble_eq_true rfl) (Nat.le_of_ble_eq_true rfl) ?_
  exact zk_ret C hr dX6_init_4 (fun H h => h)
theorem in_X0_init_X0 : ∀ q ∈ u_ws RX0 TX0 5, q ∈ wsX0_init := fun _ h => List.mem_cons_of_mem _ (List.mem_append_right _ h)
set_option maxRecDepth 100000 in
set_option maxHeartbeats 4000000 in
theorem k_X0_init (l : Launch) (E : zz_E) (pre : List va_E) (a : Nat) (ha : pre.length = a) : zk_Met l yX0_init wsX0_init 1 1 40 E (.ref (E.1 + a) :: []) (pre ++ [.inr (0, [.int 0, .int 0, .int 0, .int 0, .null])]) (pre ++ zk_candle E a) := by
  refine zk_met (cc := cX0_init) (nL := 1) (ret := none) (by decide) rfl (Nat.le_of_ble_eq_true rfl) (by simp) ?_
  intro p e s m below meth c C hAO hb0 hin hr ls hl
  have C : zz_C E RX0 cX0_init 1 wsX0_init p s m _ meth c := C
  have hl : lv_has ls 1 [(0, .ref (E.1 + a))] := hl
  refine zk_eq (pre' := pre) (X' := [.inr (0, [.int 0, .int 0, .int 0, .int 0, .null])]) (List.nil_append _) ?_
  have hl : lv_has ls 1 [(0, .ref (E.1 + (a + 0)))] := hl
  refine zk_step (fun H locs k => lv_aload_n C.1.1 C.1.2.1 dX0_init_0 rfl (lv_at hl 0 rfl) k) ?_
  refine zk_obj C (List.mem_of_getElem? (i := 1) rfl) (List.mem_of_getElem? (i := 2) rfl) (List.mem_of_getElem? (i := 3) rfl) hl.1 dX0_init_1 (Nat.le_of_ble_eq_true rfl) (Nat.le_of_ble_eq_true rfl) ?_
  refine zk_step (fun H locs k => lv_aload_n C.1.1 C.1.2.1 dX0_init_4 rfl (lv_at hl 0 rfl) k) ?_
  refine zk_step (fun H locs k => lv_bipush (v := 40) C.1.1 C.1.2.1 dX0_init_5 (by decide) k) ?_
  refine zk_newi (nx := 1) (N' := 40) C ha rfl (List.mem_of_getElem? (i := 4) rfl) (by decide) (by decide) (Nat.le_of_ble_eq_true rfl) (Nat.le_of_ble_eq_true rfl) (Nat.le_of_ble_eq_true rfl) dX0_init_7 ?_
  refine zk_cs (cl' := 1) (sl' := 40) rfl rfl ?_
  refine zk_eq (X' := (.inr (0, [.int 0, .int 0, .int 0, .int 0, .null]) :: (.inl (E.2.2.1 0, 40, .inl (fun _ => 0)) :: []))) (congrArg (pre ++ ·) rfl) ?_
  refine zk_putF C hin ha 0 (v := .ref (E.1 + (a + 1))) rfl rfl in_X0_init_X0 tyX0 tyX0_ok nmX0 4 (by decide) (List.mem_of_getElem? (i := 5) rfl) rfl rfl rfl rfl (Nat.le_of_ble_eq_true rfl) dX0_init_9 ?_
  refine zk_eq (X' := (.inr (0, [.int 0, .int 0, .int 0, .int 0, .ref (E.1 + (a + 1))]) :: (.inl (E.2.2.1 0, 40, .inl (fun _ => 0)) :: []))) (congrArg (pre ++ ·) rfl) ?_
  exact zk_ret C hr dX0_init_12 (fun H h => h)
theorem in_X3_init_X3 : ∀ q ∈ u_ws RX3 TX3 3, q ∈ wsX3_init := fun _ h => List.mem_cons_of_mem _ (List.mem_append_right _ h)
set_option maxRecDepth 100000 in
set_option maxHeartbeats 4000000 in
theorem k_X3_init (l : Launch) (E : zz_E) (pre : List va_E) (a : Nat) (ha : pre.length = a) : zk_Met l yX3_init wsX3_init 1 1 40 E (.ref (E.1 + a) :: []) (pre ++ [.inr (3, [.int 0, .int 0, .null])]) (pre ++ zk_sheet E a) := by
  refine zk_met (cc := cX3_init) (nL := 1) (ret := none) (by decide) rfl (Nat.le_of_ble_eq_true rfl) (by simp) ?_
  intro p e s m below meth c C hAO hb0 hin hr ls hl
  have C : zz_C E RX3 cX3_init 1 wsX3_init p s m _ meth c := C
  have hl : lv_has ls 1 [(0, .ref (E.1 + a))] := hl
  refine zk_eq (pre' := pre) (X' := [.inr (3, [.int 0, .int 0, .null])]) (List.nil_append _) ?_
  have hl : lv_has ls 1 [(0, .ref (E.1 + (a + 0)))] := hl
  refine zk_step (fun H locs k => lv_aload_n C.1.1 C.1.2.1 dX3_init_0 rfl (lv_at hl 0 rfl) k) ?_
  refine zk_obj C (List.mem_of_getElem? (i := 1) rfl) (List.mem_of_getElem? (i := 2) rfl) (List.mem_of_getElem? (i := 3) rfl) hl.1 dX3_init_1 (Nat.le_of_ble_eq_true rfl) (Nat.le_of_ble_eq_true rfl) ?_
  refine zk_step (fun H locs k => lv_aload_n C.1.1 C.1.2.1 dX3_init_4 rfl (lv_at hl 0 rfl) k) ?_
  refine zk_step (fun H locs k => lv_bipush (v := 40) C.1.1 C.1.2.1 dX3_init_5 (by decide) k) ?_
  refine zk_newl (nx := 1) (N' := 40) C ha rfl (List.mem_of_getElem? (i := 4) rfl) (by decide) (by decide) (Nat.le_of_ble_eq_true rfl) (Nat.le_of_ble_eq_true rfl) (Nat.le_of_ble_eq_true rfl) dX3_init_7 ?_
  refine zk_cs (cl' := 1) (sl' := 40) rfl rfl ?_
  refine zk_eq (X' := (.inr (3, [.int 0, .int 0, .null]) :: (.inl (E.2.2.1 1, 40, .inr (.inl (fun _ => 0))) :: []))) (congrArg (pre ++ ·) rfl) ?_
  refine zk_putF C hin ha 0 (v := .ref (E.1 + (a + 1))) rfl rfl in_X3_init_X3 tyX3 tyX3_ok nmX3 2 (by decide) (List.mem_of_getElem? (i := 5) rfl) rfl rfl rfl rfl (Nat.le_of_ble_eq_true rfl) dX3_init_9 ?_
  refine zk_eq (X' := (.inr (3, [.int 0, .int 0, .ref (E.1 + (a + 1))]) :: (.inl (E.2.2.1 1, 40, .inr (.inl (fun _ => 0))) :: []))) (congrArg (pre ++ ·) rfl) ?_
  exact zk_ret C hr dX3_init_12 (fun H h => h)
theorem in_X4_init_X4 : ∀ q ∈ u_ws RX4 TX4 2, q ∈ wsX4_init := fun _ h => List.mem_cons_of_mem _ (List.mem_append_right _ h)
set_option maxRecDepth 100000 in
set_option maxHeartbeats 4000000 in
theorem k_X4_init (l : Launch) (E : zz_E) (pre : List va_E) (a : Nat) (ha : pre.length = a) : zk_Met l yX4_init wsX4_init 1 1 120 E (.ref (E.1 + a) :: []) (pre ++ [.inr (4, [.null, .int 0])]) (pre ++ zk_tape E a) := by
  refine zk_met (cc := cX4_init) (nL := 1) (ret := none) (by decide) rfl (Nat.le_of_ble_eq_true rfl) (by simp) ?_
  intro p e s m below meth c C hAO hb0 hin hr ls hl
  have C : zz_C E RX4 cX4_init 1 wsX4_init p s m _ meth c := C
  have hl : lv_has ls 1 [(0, .ref (E.1 + a))] := hl
  refine zk_eq (pre' := pre) (X' := [.inr (4, [.null, .int 0])]) (List.nil_append _) ?_
  have hl : lv_has ls 1 [(0, .ref (E.1 + (a + 0)))] := hl
  refine zk_step (fun H locs k => lv_aload_n C.1.1 C.1.2.1 dX4_init_0 rfl (lv_at hl 0 rfl) k) ?_
  refine zk_obj C (List.mem_of_getElem? (i := 1) rfl) (List.mem_of_getElem? (i := 2) rfl) (List.mem_of_getElem? (i := 3) rfl) hl.1 dX4_init_1 (Nat.le_of_ble_eq_true rfl) (Nat.le_of_ble_eq_true rfl) ?_
  refine zk_step (fun H locs k => lv_aload_n C.1.1 C.1.2.1 dX4_init_4 rfl (lv_at hl 0 rfl) k) ?_
  refine zk_step (fun H locs k => lv_bipush (v := 120) C.1.1 C.1.2.1 dX4_init_5 (by decide) k) ?_
  refine zk_newi (nx := 1) (N' := 120) C ha rfl (List.mem_of_getElem? (i := 4) rfl) (by decide) (by decide) (Nat.le_of_ble_eq_true rfl) (Nat.le_of_ble_eq_true rfl) (Nat.le_of_ble_eq_true rfl) dX4_init_7 ?_
  refine zk_cs (cl' := 1) (sl' := 120) rfl rfl ?_
  refine zk_eq (X' := (.inr (4, [.null, .int 0]) :: (.inl (E.2.2.1 0, 120, .inl (fun _ => 0)) :: []))) (congrArg (pre ++ ·) rfl) ?_
  refine zk_putF C hin ha 0 (v := .ref (E.1 + (a + 1))) rfl rfl in_X4_init_X4 tyX4 tyX4_ok nmX4 0 (by decide) (List.mem_of_getElem? (i := 5) rfl) rfl rfl rfl rfl (Nat.le_of_ble_eq_true rfl) dX4_init_9 ?_
  refine zk_eq (X' := (.inr (4, [.ref (E.1 + (a + 1)), .int 0]) :: (.inl (E.2.2.1 0, 120, .inl (fun _ => 0)) :: []))) (congrArg (pre ++ ·) rfl) ?_
  exact zk_ret C hr dX4_init_12 (fun H h => h)
theorem in_X7_init_X6 : ∀ q ∈ u_ws RX6 TX6 4, q ∈ wsX7_init := fun _ h => List.mem_cons_of_mem _ (List.mem_append_right _ h)
theorem in_X7_init_X7 : ∀ q ∈ u_ws RX7 TX7 4, q ∈ wsX7_init := fun _ h => List.mem_cons_of_mem _ (List.mem_append_left _ (List.mem_append_right _ h))
theorem hdI_X6_init : yX6_init.cls ≠ "java/lang/invoke/MethodHandle" ∧ yX6_init.cls ≠ "java/lang/invoke/VarHandle" ∧ (parseMethodDescriptor yX6_init.desc).map (fun d => d.parameters.length) = some 0 := by decide +kernel
set_option maxRecDepth 100000 in
set_option maxHeartbeats 4000000 in
theorem k_X7_init (l : Launch) (E : zz_E) (pre : List va_E) (a : Nat) (ha : pre.length = a) : zk_Met l yX7_init wsX7_init 2 5 20 E (.ref (E.1 + a) :: []) (pre ++ [.inr (7, [.null, .int 0, .int 0, .int 0])]) (pre ++ zk_vats E a) := by
  refine zk_met (cc := cX7_init) (nL := 3) (ret := none) (by decide) rfl (Nat.le_of_ble_eq_true rfl) (by simp) ?_
  intro p e s m below meth c C hAO hb0 hin hr ls hl
  have C : zz_C E RX7 cX7_init 3 wsX7_init p s m _ meth c := C
  have hl : lv_has ls 3 [(0, .ref (E.1 + a))] := hl
  refine zk_eq (pre' := pre) (X' := [.inr (7, [.null, .int 0, .int 0, .int 0])]) (List.nil_append _) ?_
  have hl : lv_has ls 3 [(0, .ref (E.1 + (a + 0)))] := hl
  refine zk_step (fun H locs k => lv_aload_n C.1.1 C.1.2.1 dX7_init_0 rfl (lv_at hl 0 rfl) k) ?_
  refine zk_obj C (List.mem_of_getElem? (i := 1) rfl) (List.mem_of_getElem? (i := 2) rfl) (List.mem_of_getElem? (i := 3) rfl) hl.1 dX7_init_1 (Nat.le_of_ble_eq_true rfl) (Nat.le_of_ble_eq_true rfl) ?_
  refine zk_step (fun H locs k => lv_aload_n C.1.1 C.1.2.1 dX7_init_4 rfl (lv_at hl 0 rfl) k) ?_
  refine zk_step (fun H locs k => lv_iconst (v := 4) C.1.1 C.1.2.1 dX7_init_5 (by decide) k) ?_
  refine zk_anew (t := 4) (nx := 1) (N' := 4) C ha rfl (List.mem_of_getElem? (i := 4) rfl) hAO.2.2 rfl (by decide) (by decide) (Nat.le_of_ble_eq_true rfl) (Nat.le_of_ble_eq_true rfl) (Nat.le_of_ble_eq_true rfl) dX7_init_6 ?_
  refine zk_cs (cl' := 1) (sl' := 4) rfl rfl ?_
  refine zk_eq (X' := (.inr (7, [.null, .int 0, .int 0, .int 0]) :: (.inl (E.2.2.1 4, 4, .inr (.inr (.inr (.inr (fun _ => none))))) :: []))) (congrArg (pre ++ ·) rfl) ?_
  refine zk_putF C hin ha 0 (v := .ref (E.1 + (a + 1))) rfl rfl in_X7_init_X7 tyX7 tyX7_ok nmX7 0 (by decide) (List.mem_of_getElem? (i := 5) rfl) rfl rfl rfl rfl (Nat.le_of_ble_eq_true rfl) dX7_init_9 ?_
  refine zk_eq (X' := (.inr (7, [.ref (E.1 + (a + 1)), .int 0, .int 0, .int 0]) :: (.inl (E.2.2.1 4, 4, .inr (.inr (.inr (.inr (fun _ => none))))) :: []))) (congrArg (pre ++ ·) rfl) ?_
  refine zk_step (fun H locs k => lv_iconst (v := 0) C.1.1 C.1.2.1 dX7_init_12 (by decide) k) ?_
  refine zk_istore_n (lv' := [(1, .int (0 : Int32)), (0, .ref (E.1 + (a + 0)))]) C dX7_init_13 rfl hl (by decide) rfl (fun ls hl => ?_)
  refine zk_step (fun H locs k => lv_iload_n C.1.1 C.1.2.1 dX7_init_14 rfl (lv_at hl 0 rfl) k) ?_
  refine zk_step (fun H locs k => lv_iconst (v := 4) C.1.1 C.1.2.1 dX7_init_15 (by decide) k) ?_
  refine zk_step (fun H locs k => lv_icmp_ge (tgt := 67) C.1.1 C.1.2.1 dX7_init_16 (by decide) (fun h => absurd h (by decide)) (fun _ => k)) ?_
  refine zk_new (ci := 6) (fs := [.int 0, .int 0, .int 0, .int 0]) (nx := 2) C hb0 ha rfl in_X7_init_X6 tyX6 tyX6_ok (List.mem_of_getElem? (i := 4) rfl) (List.mem_of_getElem? (i := 6) rfl) (List.mem_of_getElem? (i := 7) rfl) rfl (fun j hj => by rcases (show j = 0 ∨ j = 1 ∨ j = 2 ∨ j = 3 by omega) with rfl | rfl | rfl | rfl <;> rfl) (Nat.le_of_ble_eq_true rfl) (Nat.le_of_ble_eq_true rfl) dX7_init_19 ?_
  refine zk_cs (cl' := 2) (sl' := 8) rfl rfl ?_
  refine zk_step (fun H locs k => lv_dup C.1.1 C.1.2.1 dX7_init_22 rfl k) ?_
  refine zk_callN (As := []) (rest := [.ref (E.1 + (a + 2))]) C hAO (zk_lift (n := 2) (k_X6_init l E) ha rfl) ⟨va_cnB 0 C.1.2.2.2.2 gX7_init_X6_init_n17 rfl rfl rfl C.2.1.2.1.2.2.2.2.2.2.1 (C.1.2.2.2.2 _ (List.mem_of_getElem? (i := 7) rfl)) hdI_X6_init ⟨Nat.le_of_ble_eq_true rfl, Nat.le_of_ble_eq_true rfl⟩, rfl, C.1.2.2.2.2 _ (List.mem_of_getElem? (i := 13) rfl)⟩ rfl hl.1 rfl (Nat.le_of_ble_eq_true rfl) dX7_init_23 (Nat.le_of_ble_eq_true rfl) (Nat.le_of_ble_eq_true rfl) ?_
  refine zk_cs (cl' := 2) (sl' := 8) rfl rfl ?_
  refine zk_eq (X' := (.inr (7, [.ref (E.1 + (a + 1)), .int 0, .int 0, .int 0]) :: (.inl (E.2.2.1 4, 4, .inr (.inr (.inr (.inr (fun _ => none))))) :: (.inr (6, [.int 0, .int 0, .int 0, .int 0]) :: [])))) (congrArg (pre ++ ·) rfl) ?_
  refine zk_astore_n (lv' := [(2, .ref (E.1 + (a + 2))), (1, .int (0 : Int32)), (0, .ref (E.1 + (a + 0)))]) C dX7_init_26 rfl hl (by decide) rfl (fun ls hl => ?_)
  refine zk_step (fun H locs k => lv_aload_n C.1.1 C.1.2.1 dX7_init_27 rfl (lv_at hl 0 rfl) k) ?_
  refine zk_step (fun H locs k => lv_iload_n C.1.1 C.1.2.1 dX7_init_28 rfl (lv_at hl 1 rfl) k) ?_
  refine zk_step (fun H locs k => lv_iconst (v := 3) C.1.1 C.1.2.1 dX7_init_29 (by decide) k) ?_
  refine zk_step (fun H locs k => lv_icmp_ne (tgt := 37) C.1.1 C.1.2.1 dX7_init_30 (by decide) (fun _ => k) (fun h => absurd h (by decide))) ?_
  refine zk_step (fun H locs k => lv_iconst (v := 0) C.1.1 C.1.2.1 dX7_init_37 (by decide) k) ?_
  refine zk_put C ha 2 (v := .int 0) rfl rfl in_X7_init_X6 tyX6 tyX6_ok nmX6 0 (by decide) (List.mem_of_getElem? (i := 8) rfl) rfl (zz_nb (v := 0) rfl) (zz_fb (v := 0) rfl) (Nat.le_of_ble_eq_true rfl) dX7_init_38 ?_
  refine zk_eq (X' := (.inr (7, [.ref (E.1 + (a + 1)), .int 0, .int 0, .int 0]) :: (.inl (E.2.2.1 4, 4, .inr (.inr (.inr (.inr (fun _ => none))))) :: (.inr (6, [.int 0, .int 0, .int 0, .int 0]) :: [])))) (congrArg (pre ++ ·) rfl) ?_
  refine zk_step (fun H locs k => lv_aload_n C.1.1 C.1.2.1 dX7_init_41 rfl (lv_at hl 0 rfl) k) ?_
  refine zk_step (fun H locs k => lv_bipush (v := 50) C.1.1 C.1.2.1 dX7_init_42 (by decide) k) ?_
  refine zk_put C ha 2 (v := .int 50) rfl rfl in_X7_init_X6 tyX6 tyX6_ok nmX6 1 (by decide) (List.mem_of_getElem? (i := 9) rfl) rfl rfl rfl (Nat.le_of_ble_eq_true rfl) dX7_init_44 ?_
  refine zk_eq (X' := (.inr (7, [.ref (E.1 + (a + 1)), .int 0, .int 0, .int 0]) :: (.inl (E.2.2.1 4, 4, .inr (.inr (.inr (.inr (fun _ => none))))) :: (.inr (6, [.int 0, .int 50, .int 0, .int 0]) :: [])))) (congrArg (pre ++ ·) rfl) ?_
  refine zk_step (fun H locs k => lv_aload_n C.1.1 C.1.2.1 dX7_init_47 rfl (lv_at hl 0 rfl) k) ?_
  refine zk_step (fun H locs k => lv_sipush (v := 2000) C.1.1 C.1.2.1 dX7_init_48 (by decide) k) ?_
  refine zk_put C ha 2 (v := .int 2000) rfl rfl in_X7_init_X6 tyX6 tyX6_ok nmX6 2 (by decide) (List.mem_of_getElem? (i := 10) rfl) rfl rfl rfl (Nat.le_of_ble_eq_true rfl) dX7_init_51 ?_
  refine zk_eq (X' := (.inr (7, [.ref (E.1 + (a + 1)), .int 0, .int 0, .int 0]) :: (.inl (E.2.2.1 4, 4, .inr (.inr (.inr (.inr (fun _ => none))))) :: (.inr (6, [.int 0, .int 50, .int 2000, .int 0]) :: [])))) (congrArg (pre ++ ·) rfl) ?_
  refine zk_step (fun H locs k => lv_aload_n C.1.1 C.1.2.1 dX7_init_54 rfl (lv_at hl 2 rfl) k) ?_
  refine zk_get C ha 0 rfl rfl in_X7_init_X7 0 (by decide) (List.mem_of_getElem? (i := 5) rfl) rfl dX7_init_55 ?_
  refine zk_step (fun H locs k => lv_iload_n C.1.1 C.1.2.1 dX7_init_58 rfl (lv_at hl 1 rfl) k) ?_
  refine zk_step (fun H locs k => lv_aload_n C.1.1 C.1.2.1 dX7_init_59 rfl (lv_at hl 0 rfl) k) ?_
  refine zk_aast C ha 1 4 2 rfl rfl rfl rfl (by decide) dX7_init_60 ?_
  refine zk_eq (X' := (.inr (7, [.ref (E.1 + (a + 1)), .int 0, .int 0, .int 0]) :: (.inl (E.2.2.1 4, 4, .inr (.inr (.inr (.inr (va_up (fun _ => none) 0 (some (E.1 + (a + 2)))))))) :: (.inr (6, [.int 0, .int 50, .int 2000, .int 0]) :: [])))) (congrArg (pre ++ ·) rfl) ?_
  refine zk_iinc (k9 := 1) (v := 1) (lv' := [(1, .int (1 : Int32)), (2, .ref (E.1 + (a + 2))), (0, .ref (E.1 + (a + 0)))]) C dX7_init_61 hl rfl (by decide) (by decide) rfl (fun ls hl => ?_)
  refine zk_step (fun H locs k => lv_goto (tgt := 14) C.1.1 C.1.2.1 dX7_init_64 (by decide) k) ?_
  refine zk_step (fun H locs k => lv_iload_n C.1.1 C.1.2.1 dX7_init_14 rfl (lv_at hl 0 rfl) k) ?_
  refine zk_step (fun H locs k => lv_iconst (v := 4) C.1.1 C.1.2.1 dX7_init_15 (by decide) k) ?_
  refine zk_step (fun H locs k => lv_icmp_ge (tgt := 67) C.1.1 C.1.2.1 dX7_init_16 (by decide) (fun h => absurd h (by decide)) (fun _ => k)) ?_
  refine zk_new (ci := 6) (fs := [.int 0, .int 0, .int 0, .int 0]) (nx := 3) C hb0 ha rfl in_X7_init_X6 tyX6 tyX6_ok (List.mem_of_getElem? (i := 4) rfl) (List.mem_of_getElem? (i := 6) rfl) (List.mem_of_getElem? (i := 7) rfl) rfl (fun j hj => by rcases (show j = 0 ∨ j = 1 ∨ j = 2 ∨ j = 3 by omega) with rfl | rfl | rfl | rfl <;> rfl) (Nat.le_of_ble_eq_true rfl) (Nat.le_of_ble_eq_true rfl) dX7_init_19 ?_
  refine zk_cs (cl' := 3) (sl' := 12) rfl rfl ?_
  refine zk_step (fun H locs k => lv_dup C.1.1 C.1.2.1 dX7_init_22 rfl k) ?_
  refine zk_callN (As := []) (rest := [.ref (E.1 + (a + 3))]) C hAO (zk_lift (n := 3) (k_X6_init l E) ha rfl) ⟨va_cnB 0 C.1.2.2.2.2 gX7_init_X6_init_n17 rfl rfl rfl C.2.1.2.1.2.2.2.2.2.2.1 (C.1.2.2.2.2 _ (List.mem_of_getElem? (i := 7) rfl)) hdI_X6_init ⟨Nat.le_of_ble_eq_true rfl, Nat.le_of_ble_eq_true rfl⟩, rfl, C.1.2.2.2.2 _ (List.mem_of_getElem? (i := 13) rfl)⟩ rfl hl.1 rfl (Nat.le_of_ble_eq_true rfl) dX7_init_23 (Nat.le_of_ble_eq_true rfl) (Nat.le_of_ble_eq_true rfl) ?_
  refine zk_cs (cl' := 3) (sl' := 12) rfl rfl ?_
  refine zk_eq (X' := (.inr (7, [.ref (E.1 + (a + 1)), .int 0, .int 0, .int 0]) :: (.inl (E.2.2.1 4, 4, .inr (.inr (.inr (.inr (va_up (fun _ => none) 0 (some (E.1 + (a + 2)))))))) :: (.inr (6, [.int 0, .int 50, .int 2000, .int 0]) :: (.inr (6, [.int 0, .int 0, .int 0, .int 0]) :: []))))) (congrArg (pre ++ ·) rfl) ?_
  refine zk_astore_n (lv' := [(2, .ref (E.1 + (a + 3))), (1, .int (1 : Int32)), (0, .ref (E.1 + (a + 0)))]) C dX7_init_26 rfl hl (by decide) rfl (fun ls hl => ?_)
  refine zk_step (fun H locs k => lv_aload_n C.1.1 C.1.2.1 dX7_init_27 rfl (lv_at hl 0 rfl) k) ?_
  refine zk_step (fun H locs k => lv_iload_n C.1.1 C.1.2.1 dX7_init_28 rfl (lv_at hl 1 rfl) k) ?_
  refine zk_step (fun H locs k => lv_iconst (v := 3) C.1.1 C.1.2.1 dX7_init_29 (by decide) k) ?_
  refine zk_step (fun H locs k => lv_icmp_ne (tgt := 37) C.1.1 C.1.2.1 dX7_init_30 (by decide) (fun _ => k) (fun h => absurd h (by decide))) ?_
  refine zk_step (fun H locs k => lv_iconst (v := 0) C.1.1 C.1.2.1 dX7_init_37 (by decide) k) ?_
  refine zk_put C ha 3 (v := .int 0) rfl rfl in_X7_init_X6 tyX6 tyX6_ok nmX6 0 (by decide) (List.mem_of_getElem? (i := 8) rfl) rfl (zz_nb (v := 0) rfl) (zz_fb (v := 0) rfl) (Nat.le_of_ble_eq_true rfl) dX7_init_38 ?_
  refine zk_eq (X' := (.inr (7, [.ref (E.1 + (a + 1)), .int 0, .int 0, .int 0]) :: (.inl (E.2.2.1 4, 4, .inr (.inr (.inr (.inr (va_up (fun _ => none) 0 (some (E.1 + (a + 2)))))))) :: (.inr (6, [.int 0, .int 50, .int 2000, .int 0]) :: (.inr (6, [.int 0, .int 0, .int 0, .int 0]) :: []))))) (congrArg (pre ++ ·) rfl) ?_
  refine zk_step (fun H locs k => lv_aload_n C.1.1 C.1.2.1 dX7_init_41 rfl (lv_at hl 0 rfl) k) ?_
  refine zk_step (fun H locs k => lv_bipush (v := 50) C.1.1 C.1.2.1 dX7_init_42 (by decide) k) ?_
  refine zk_put C ha 3 (v := .int 50) rfl rfl in_X7_init_X6 tyX6 tyX6_ok nmX6 1 (by decide) (List.mem_of_getElem? (i := 9) rfl) rfl rfl rfl (Nat.le_of_ble_eq_true rfl) dX7_init_44 ?_
  refine zk_eq (X' := (.inr (7, [.ref (E.1 + (a + 1)), .int 0, .int 0, .int 0]) :: (.inl (E.2.2.1 4, 4, .inr (.inr (.inr (.inr (va_up (fun _ => none) 0 (some (E.1 + (a + 2)))))))) :: (.inr (6, [.int 0, .int 50, .int 2000, .int 0]) :: (.inr (6, [.int 0, .int 50, .int 0, .int 0]) :: []))))) (congrArg (pre ++ ·) rfl) ?_
  refine zk_step (fun H locs k => lv_aload_n C.1.1 C.1.2.1 dX7_init_47 rfl (lv_at hl 0 rfl) k) ?_
  refine zk_step (fun H locs k => lv_sipush (v := 2000) C.1.1 C.1.2.1 dX7_init_48 (by decide) k) ?_
  refine zk_put C ha 3 (v := .int 2000) rfl rfl in_X7_init_X6 tyX6 tyX6_ok nmX6 2 (by decide) (List.mem_of_getElem? (i := 10) rfl) rfl rfl rfl (Nat.le_of_ble_eq_true rfl) dX7_init_51 ?_
  refine zk_eq (X' := (.inr (7, [.ref (E.1 + (a + 1)), .int 0, .int 0, .int 0]) :: (.inl (E.2.2.1 4, 4, .inr (.inr (.inr (.inr (va_up (fun _ => none) 0 (some (E.1 + (a + 2)))))))) :: (.inr (6, [.int 0, .int 50, .int 2000, .int 0]) :: (.inr (6, [.int 0, .int 50, .int 2000, .int 0]) :: []))))) (congrArg (pre ++ ·) rfl) ?_
  refine zk_step (fun H locs k => lv_aload_n C.1.1 C.1.2.1 dX7_init_54 rfl (lv_at hl 2 rfl) k) ?_
  refine zk_get C ha 0 rfl rfl in_X7_init_X7 0 (by decide) (List.mem_of_getElem? (i := 5) rfl) rfl dX7_init_55 ?_
  refine zk_step (fun H locs k => lv_iload_n C.1.1 C.1.2.1 dX7_init_58 rfl (lv_at hl 1 rfl) k) ?_
  refine zk_step (fun H locs k => lv_aload_n C.1.1 C.1.2.1 dX7_init_59 rfl (lv_at hl 0 rfl) k) ?_
  refine zk_aast C ha 1 4 3 rfl rfl rfl rfl (by decide) dX7_init_60 ?_
  refine zk_eq (X' := (.inr (7, [.ref (E.1 + (a + 1)), .int 0, .int 0, .int 0]) :: (.inl (E.2.2.1 4, 4, .inr (.inr (.inr (.inr (va_up (va_up (fun _ => none) 0 (some (E.1 + (a + 2)))) 1 (some (E.1 + (a + 3)))))))) :: (.inr (6, [.int 0, .int 50, .int 2000, .int 0]) :: (.inr (6, [.int 0, .int 50, .int 2000, .int 0]) :: []))))) (congrArg (pre ++ ·) rfl) ?_
  refine zk_iinc (k9 := 1) (v := 2) (lv' := [(1, .int (2 : Int32)), (2, .ref (E.1 + (a + 3))), (0, .ref (E.1 + (a + 0)))]) C dX7_init_61 hl rfl (by decide) (by decide) rfl (fun ls hl => ?_)
  refine zk_step (fun H locs k => lv_goto (tgt := 14) C.1.1 C.1.2.1 dX7_init_64 (by decide) k) ?_
  refine zk_step (fun H locs k => lv_iload_n C.1.1 C.1.2.1 dX7_init_14 rfl (lv_at hl 0 rfl) k) ?_
  refine zk_step (fun H locs k => lv_iconst (v := 4) C.1.1 C.1.2.1 dX7_init_15 (by decide) k) ?_
  refine zk_step (fun H locs k => lv_icmp_ge (tgt := 67) C.1.1 C.1.2.1 dX7_init_16 (by decide) (fun h => absurd h (by decide)) (fun _ => k)) ?_
  refine zk_new (ci := 6) (fs := [.int 0, .int 0, .int 0, .int 0]) (nx := 4) C hb0 ha rfl in_X7_init_X6 tyX6 tyX6_ok (List.mem_of_getElem? (i := 4) rfl) (List.mem_of_getElem? (i := 6) rfl) (List.mem_of_getElem? (i := 7) rfl) rfl (fun j hj => by rcases (show j = 0 ∨ j = 1 ∨ j = 2 ∨ j = 3 by omega) with rfl | rfl | rfl | rfl <;> rfl) (Nat.le_of_ble_eq_true rfl) (Nat.le_of_ble_eq_true rfl) dX7_init_19 ?_
  refine zk_cs (cl' := 4) (sl' := 16) rfl rfl ?_
  refine zk_step (fun H locs k => lv_dup C.1.1 C.1.2.1 dX7_init_22 rfl k) ?_
  refine zk_callN (As := []) (rest := [.ref (E.1 + (a + 4))]) C hAO (zk_lift (n := 4) (k_X6_init l E) ha rfl) ⟨va_cnB 0 C.1.2.2.2.2 gX7_init_X6_init_n17 rfl rfl rfl C.2.1.2.1.2.2.2.2.2.2.1 (C.1.2.2.2.2 _ (List.mem_of_getElem? (i := 7) rfl)) hdI_X6_init ⟨Nat.le_of_ble_eq_true rfl, Nat.le_of_ble_eq_true rfl⟩, rfl, C.1.2.2.2.2 _ (List.mem_of_getElem? (i := 13) rfl)⟩ rfl hl.1 rfl (Nat.le_of_ble_eq_true rfl) dX7_init_23 (Nat.le_of_ble_eq_true rfl) (Nat.le_of_ble_eq_true rfl) ?_
  refine zk_cs (cl' := 4) (sl' := 16) rfl rfl ?_
  refine zk_eq (X' := (.inr (7, [.ref (E.1 + (a + 1)), .int 0, .int 0, .int 0]) :: (.inl (E.2.2.1 4, 4, .inr (.inr (.inr (.inr (va_up (va_up (fun _ => none) 0 (some (E.1 + (a + 2)))) 1 (some (E.1 + (a + 3)))))))) :: (.inr (6, [.int 0, .int 50, .int 2000, .int 0]) :: (.inr (6, [.int 0, .int 50, .int 2000, .int 0]) :: (.inr (6, [.int 0, .int 0, .int 0, .int 0]) :: [])))))) (congrArg (pre ++ ·) rfl) ?_
  refine zk_astore_n (lv' := [(2, .ref (E.1 + (a + 4))), (1, .int (2 : Int32)), (0, .ref (E.1 + (a + 0)))]) C dX7_init_26 rfl hl (by decide) rfl (fun ls hl => ?_)
  refine zk_step (fun H locs k => lv_aload_n C.1.1 C.1.2.1 dX7_init_27 rfl (lv_at hl 0 rfl) k) ?_
  refine zk_step (fun H locs k => lv_iload_n C.1.1 C.1.2.1 dX7_init_28 rfl (lv_at hl 1 rfl) k) ?_
  refine zk_step (fun H locs k => lv_iconst (v := 3) C.1.1 C.1.2.1 dX7_init_29 (by decide) k) ?_
  refine zk_step (fun H locs k => lv_icmp_ne (tgt := 37) C.1.1 C.1.2.1 dX7_init_30 (by decide) (fun _ => k) (fun h => absurd h (by decide))) ?_
  refine zk_step (fun H locs k => lv_iconst (v := 0) C.1.1 C.1.2.1 dX7_init_37 (by decide) k) ?_
  refine zk_put C ha 4 (v := .int 0) rfl rfl in_X7_init_X6 tyX6 tyX6_ok nmX6 0 (by decide) (List.mem_of_getElem? (i := 8) rfl) rfl (zz_nb (v := 0) rfl) (zz_fb (v := 0) rfl) (Nat.le_of_ble_eq_true rfl) dX7_init_38 ?_
  refine zk_eq (X' := (.inr (7, [.ref (E.1 + (a + 1)), .int 0, .int 0, .int 0]) :: (.inl (E.2.2.1 4, 4, .inr (.inr (.inr (.inr (va_up (va_up (fun _ => none) 0 (some (E.1 + (a + 2)))) 1 (some (E.1 + (a + 3)))))))) :: (.inr (6, [.int 0, .int 50, .int 2000, .int 0]) :: (.inr (6, [.int 0, .int 50, .int 2000, .int 0]) :: (.inr (6, [.int 0, .int 0, .int 0, .int 0]) :: [])))))) (congrArg (pre ++ ·) rfl) ?_
  refine zk_step (fun H locs k => lv_aload_n C.1.1 C.1.2.1 dX7_init_41 rfl (lv_at hl 0 rfl) k) ?_
  refine zk_step (fun H locs k => lv_bipush (v := 50) C.1.1 C.1.2.1 dX7_init_42 (by decide) k) ?_
  refine zk_put C ha 4 (v := .int 50) rfl rfl in_X7_init_X6 tyX6 tyX6_ok nmX6 1 (by decide) (List.mem_of_getElem? (i := 9) rfl) rfl rfl rfl (Nat.le_of_ble_eq_true rfl) dX7_init_44 ?_
  refine zk_eq (X' := (.inr (7, [.ref (E.1 + (a + 1)), .int 0, .int 0, .int 0]) :: (.inl (E.2.2.1 4, 4, .inr (.inr (.inr (.inr (va_up (va_up (fun _ => none) 0 (some (E.1 + (a + 2)))) 1 (some (E.1 + (a + 3)))))))) :: (.inr (6, [.int 0, .int 50, .int 2000, .int 0]) :: (.inr (6, [.int 0, .int 50, .int 2000, .int 0]) :: (.inr (6, [.int 0, .int 50, .int 0, .int 0]) :: [])))))) (congrArg (pre ++ ·) rfl) ?_
  refine zk_step (fun H locs k => lv_aload_n C.1.1 C.1.2.1 dX7_init_47 rfl (lv_at hl 0 rfl) k) ?_
  refine zk_step (fun H locs k => lv_sipush (v := 2000) C.1.1 C.1.2.1 dX7_init_48 (by decide) k) ?_
  refine zk_put C ha 4 (v := .int 2000) rfl rfl in_X7_init_X6 tyX6 tyX6_ok nmX6 2 (by decide) (List.mem_of_getElem? (i := 10) rfl) rfl rfl rfl (Nat.le_of_ble_eq_true rfl) dX7_init_51 ?_
  refine zk_eq (X' := (.inr (7, [.ref (E.1 + (a + 1)), .int 0, .int 0, .int 0]) :: (.inl (E.2.2.1 4, 4, .inr (.inr (.inr (.inr (va_up (va_up (fun _ => none) 0 (some (E.1 + (a + 2)))) 1 (some (E.1 + (a + 3)))))))) :: (.inr (6, [.int 0, .int 50, .int 2000, .int 0]) :: (.inr (6, [.int 0, .int 50, .int 2000, .int 0]) :: (.inr (6, [.int 0, .int 50, .int 2000, .int 0]) :: [])))))) (congrArg (pre ++ ·) rfl) ?_
  refine zk_step (fun H locs k => lv_aload_n C.1.1 C.1.2.1 dX7_init_54 rfl (lv_at hl 2 rfl) k) ?_
  refine zk_get C ha 0 rfl rfl in_X7_init_X7 0 (by decide) (List.mem_of_getElem? (i := 5) rfl) rfl dX7_init_55 ?_
  refine zk_step (fun H locs k => lv_iload_n C.1.1 C.1.2.1 dX7_init_58 rfl (lv_at hl 1 rfl) k) ?_
  refine zk_step (fun H locs k => lv_aload_n C.1.1 C.1.2.1 dX7_init_59 rfl (lv_at hl 0 rfl) k) ?_
  refine zk_aast C ha 1 4 4 rfl rfl rfl rfl (by decide) dX7_init_60 ?_
  refine zk_eq (X' := (.inr (7, [.ref (E.1 + (a + 1)), .int 0, .int 0, .int 0]) :: (.inl (E.2.2.1 4, 4, .inr (.inr (.inr (.inr (va_up (va_up (va_up (fun _ => none) 0 (some (E.1 + (a + 2)))) 1 (some (E.1 + (a + 3)))) 2 (some (E.1 + (a + 4)))))))) :: (.inr (6, [.int 0, .int 50, .int 2000, .int 0]) :: (.inr (6, [.int 0, .int 50, .int 2000, .int 0]) :: (.inr (6, [.int 0, .int 50, .int 2000, .int 0]) :: [])))))) (congrArg (pre ++ ·) rfl) ?_
  refine zk_iinc (k9 := 1) (v := 3) (lv' := [(1, .int (3 : Int32)), (2, .ref (E.1 + (a + 4))), (0, .ref (E.1 + (a + 0)))]) C dX7_init_61 hl rfl (by decide) (by decide) rfl (fun ls hl => ?_)
  refine zk_step (fun H locs k => lv_goto (tgt := 14) C.1.1 C.1.2.1 dX7_init_64 (by decide) k) ?_
  refine zk_step (fun H locs k => lv_iload_n C.1.1 C.1.2.1 dX7_init_14 rfl (lv_at hl 0 rfl) k) ?_
  refine zk_step (fun H locs k => lv_iconst (v := 4) C.1.1 C.1.2.1 dX7_init_15 (by decide) k) ?_
  refine zk_step (fun H locs k => lv_icmp_ge (tgt := 67) C.1.1 C.1.2.1 dX7_init_16 (by decide) (fun h => absurd h (by decide)) (fun _ => k)) ?_
  refine zk_new (ci := 6) (fs := [.int 0, .int 0, .int 0, .int 0]) (nx := 5) C hb0 ha rfl in_X7_init_X6 tyX6 tyX6_ok (List.mem_of_getElem? (i := 4) rfl) (List.mem_of_getElem? (i := 6) rfl) (List.mem_of_getElem? (i := 7) rfl) rfl (fun j hj => by rcases (show j = 0 ∨ j = 1 ∨ j = 2 ∨ j = 3 by omega) with rfl | rfl | rfl | rfl <;> rfl) (Nat.le_of_ble_eq_true rfl) (Nat.le_of_ble_eq_true rfl) dX7_init_19 ?_
  refine zk_cs (cl' := 5) (sl' := 20) rfl rfl ?_
  refine zk_step (fun H locs k => lv_dup C.1.1 C.1.2.1 dX7_init_22 rfl k) ?_
  refine zk_callN (As := []) (rest := [.ref (E.1 + (a + 5))]) C hAO (zk_lift (n := 5) (k_X6_init l E) ha rfl) ⟨va_cnB 0 C.1.2.2.2.2 gX7_init_X6_init_n17 rfl rfl rfl C.2.1.2.1.2.2.2.2.2.2.1 (C.1.2.2.2.2 _ (List.mem_of_getElem? (i := 7) rfl)) hdI_X6_init ⟨Nat.le_of_ble_eq_true rfl, Nat.le_of_ble_eq_true rfl⟩, rfl, C.1.2.2.2.2 _ (List.mem_of_getElem? (i := 13) rfl)⟩ rfl hl.1 rfl (Nat.le_of_ble_eq_true rfl) dX7_init_23 (Nat.le_of_ble_eq_true rfl) (Nat.le_of_ble_eq_true rfl) ?_
  refine zk_cs (cl' := 5) (sl' := 20) rfl rfl ?_
  refine zk_eq (X' := (.inr (7, [.ref (E.1 + (a + 1)), .int 0, .int 0, .int 0]) :: (.inl (E.2.2.1 4, 4, .inr (.inr (.inr (.inr (va_up (va_up (va_up (fun _ => none) 0 (some (E.1 + (a + 2)))) 1 (some (E.1 + (a + 3)))) 2 (some (E.1 + (a + 4)))))))) :: (.inr (6, [.int 0, .int 50, .int 2000, .int 0]) :: (.inr (6, [.int 0, .int 50, .int 2000, .int 0]) :: (.inr (6, [.int 0, .int 50, .int 2000, .int 0]) :: (.inr (6, [.int 0, .int 0, .int 0, .int 0]) :: []))))))) (congrArg (pre ++ ·) rfl) ?_
  refine zk_astore_n (lv' := [(2, .ref (E.1 + (a + 5))), (1, .int (3 : Int32)), (0, .ref (E.1 + (a + 0)))]) C dX7_init_26 rfl hl (by decide) rfl (fun ls hl => ?_)
  refine zk_step (fun H locs k => lv_aload_n C.1.1 C.1.2.1 dX7_init_27 rfl (lv_at hl 0 rfl) k) ?_
  refine zk_step (fun H locs k => lv_iload_n C.1.1 C.1.2.1 dX7_init_28 rfl (lv_at hl 1 rfl) k) ?_
  refine zk_step (fun H locs k => lv_iconst (v := 3) C.1.1 C.1.2.1 dX7_init_29 (by decide) k) ?_
  refine zk_step (fun H locs k => lv_icmp_ne (tgt := 37) C.1.1 C.1.2.1 dX7_init_30 (by decide) (fun h => absurd rfl h) (fun _ => k)) ?_
  refine zk_step (fun H locs k => lv_iconst (v := 1) C.1.1 C.1.2.1 dX7_init_33 (by decide) k) ?_
  refine zk_step (fun H locs k => lv_goto (tgt := 38) C.1.1 C.1.2.1 dX7_init_34 (by decide) k) ?_
  refine zk_put C ha 5 (v := .int 1) rfl rfl in_X7_init_X6 tyX6 tyX6_ok nmX6 0 (by decide) (List.mem_of_getElem? (i := 8) rfl) rfl (zz_nb (v := 1) rfl) (zz_fb (v := 1) rfl) (Nat.le_of_ble_eq_true rfl) dX7_init_38 ?_
  refine zk_eq (X' := (.inr (7, [.ref (E.1 + (a + 1)), .int 0, .int 0, .int 0]) :: (.inl (E.2.2.1 4, 4, .inr (.inr (.inr (.inr (va_up (va_up (va_up (fun _ => none) 0 (some (E.1 + (a + 2)))) 1 (some (E.1 + (a + 3)))) 2 (some (E.1 + (a + 4)))))))) :: (.inr (6, [.int 0, .int 50, .int 2000, .int 0]) :: (.inr (6, [.int 0, .int 50, .int 2000, .int 0]) :: (.inr (6, [.int 0, .int 50, .int 2000, .int 0]) :: (.inr (6, [.int 1, .int 0, .int 0, .int 0]) :: []))))))) (congrArg (pre ++ ·) rfl) ?_
  refine zk_step (fun H locs k => lv_aload_n C.1.1 C.1.2.1 dX7_init_41 rfl (lv_at hl 0 rfl) k) ?_
  refine zk_step (fun H locs k => lv_bipush (v := 50) C.1.1 C.1.2.1 dX7_init_42 (by decide) k) ?_
  refine zk_put C ha 5 (v := .int 50) rfl rfl in_X7_init_X6 tyX6 tyX6_ok nmX6 1 (by decide) (List.mem_of_getElem? (i := 9) rfl) rfl rfl rfl (Nat.le_of_ble_eq_true rfl) dX7_init_44 ?_
  refine zk_eq (X' := (.inr (7, [.ref (E.1 + (a + 1)), .int 0, .int 0, .int 0]) :: (.inl (E.2.2.1 4, 4, .inr (.inr (.inr (.inr (va_up (va_up (va_up (fun _ => none) 0 (some (E.1 + (a + 2)))) 1 (some (E.1 + (a + 3)))) 2 (some (E.1 + (a + 4)))))))) :: (.inr (6, [.int 0, .int 50, .int 2000, .int 0]) :: (.inr (6, [.int 0, .int 50, .int 2000, .int 0]) :: (.inr (6, [.int 0, .int 50, .int 2000, .int 0]) :: (.inr (6, [.int 1, .int 50, .int 0, .int 0]) :: []))))))) (congrArg (pre ++ ·) rfl) ?_
  refine zk_step (fun H locs k => lv_aload_n C.1.1 C.1.2.1 dX7_init_47 rfl (lv_at hl 0 rfl) k) ?_
  refine zk_step (fun H locs k => lv_sipush (v := 2000) C.1.1 C.1.2.1 dX7_init_48 (by decide) k) ?_
  refine zk_put C ha 5 (v := .int 2000) rfl rfl in_X7_init_X6 tyX6 tyX6_ok nmX6 2 (by decide) (List.mem_of_getElem? (i := 10) rfl) rfl rfl rfl (Nat.le_of_ble_eq_true rfl) dX7_init_51 ?_
  refine zk_eq (X' := (.inr (7, [.ref (E.1 + (a + 1)), .int 0, .int 0, .int 0]) :: (.inl (E.2.2.1 4, 4, .inr (.inr (.inr (.inr (va_up (va_up (va_up (fun _ => none) 0 (some (E.1 + (a + 2)))) 1 (some (E.1 + (a + 3)))) 2 (some (E.1 + (a + 4)))))))) :: (.inr (6, [.int 0, .int 50, .int 2000, .int 0]) :: (.inr (6, [.int 0, .int 50, .int 2000, .int 0]) :: (.inr (6, [.int 0, .int 50, .int 2000, .int 0]) :: (.inr (6, [.int 1, .int 50, .int 2000, .int 0]) :: []))))))) (congrArg (pre ++ ·) rfl) ?_
  refine zk_step (fun H locs k => lv_aload_n C.1.1 C.1.2.1 dX7_init_54 rfl (lv_at hl 2 rfl) k) ?_
  refine zk_get C ha 0 rfl rfl in_X7_init_X7 0 (by decide) (List.mem_of_getElem? (i := 5) rfl) rfl dX7_init_55 ?_
  refine zk_step (fun H locs k => lv_iload_n C.1.1 C.1.2.1 dX7_init_58 rfl (lv_at hl 1 rfl) k) ?_
  refine zk_step (fun H locs k => lv_aload_n C.1.1 C.1.2.1 dX7_init_59 rfl (lv_at hl 0 rfl) k) ?_
  refine zk_aast C ha 1 4 5 rfl rfl rfl rfl (by decide) dX7_init_60 ?_
  refine zk_eq (X' := (.inr (7, [.ref (E.1 + (a + 1)), .int 0, .int 0, .int 0]) :: (.inl (E.2.2.1 4, 4, .inr (.inr (.inr (.inr (va_up (va_up (va_up (va_up (fun _ => none) 0 (some (E.1 + (a + 2)))) 1 (some (E.1 + (a + 3)))) 2 (some (E.1 + (a + 4)))) 3 (some (E.1 + (a + 5)))))))) :: (.inr (6, [.int 0, .int 50, .int 2000, .int 0]) :: (.inr (6, [.int 0, .int 50, .int 2000, .int 0]) :: (.inr (6, [.int 0, .int 50, .int 2000, .int 0]) :: (.inr (6, [.int 1, .int 50, .int 2000, .int 0]) :: []))))))) (congrArg (pre ++ ·) rfl) ?_
  refine zk_iinc (k9 := 1) (v := 4) (lv' := [(1, .int (4 : Int32)), (2, .ref (E.1 + (a + 5))), (0, .ref (E.1 + (a + 0)))]) C dX7_init_61 hl rfl (by decide) (by decide) rfl (fun ls hl => ?_)
  refine zk_step (fun H locs k => lv_goto (tgt := 14) C.1.1 C.1.2.1 dX7_init_64 (by decide) k) ?_
  refine zk_step (fun H locs k => lv_iload_n C.1.1 C.1.2.1 dX7_init_14 rfl (lv_at hl 0 rfl) k) ?_
  refine zk_step (fun H locs k => lv_iconst (v := 4) C.1.1 C.1.2.1 dX7_init_15 (by decide) k) ?_
  refine zk_step (fun H locs k => lv_icmp_ge (tgt := 67) C.1.1 C.1.2.1 dX7_init_16 (by decide) (fun _ => k) (fun h => absurd (by decide) h)) ?_
  refine zk_step (fun H locs k => lv_aload_n C.1.1 C.1.2.1 dX7_init_67 rfl (lv_at hl 2 rfl) k) ?_
  refine zk_step (fun H locs k => lv_bipush (v := 50) C.1.1 C.1.2.1 dX7_init_68 (by decide) k) ?_
  refine zk_put C ha 0 (v := .int 50) rfl rfl in_X7_init_X7 tyX7 tyX7_ok nmX7 1 (by decide) (List.mem_of_getElem? (i := 11) rfl) rfl rfl rfl (Nat.le_of_ble_eq_true rfl) dX7_init_70 ?_
  refine zk_eq (X' := (.inr (7, [.ref (E.1 + (a + 1)), .int 50, .int 0, .int 0]) :: (.inl (E.2.2.1 4, 4, .inr (.inr (.inr (.inr (va_up (va_up (va_up (va_up (fun _ => none) 0 (some (E.1 + (a + 2)))) 1 (some (E.1 + (a + 3)))) 2 (some (E.1 + (a + 4)))) 3 (some (E.1 + (a + 5)))))))) :: (.inr (6, [.int 0, .int 50, .int 2000, .int 0]) :: (.inr (6, [.int 0, .int 50, .int 2000, .int 0]) :: (.inr (6, [.int 0, .int 50, .int 2000, .int 0]) :: (.inr (6, [.int 1, .int 50, .int 2000, .int 0]) :: []))))))) (congrArg (pre ++ ·) rfl) ?_
  refine zk_step (fun H locs k => lv_aload_n C.1.1 C.1.2.1 dX7_init_73 rfl (lv_at hl 2 rfl) k) ?_
  refine zk_step (fun H locs k => lv_iconst (v := 2) C.1.1 C.1.2.1 dX7_init_74 (by decide) k) ?_
  refine zk_put C ha 0 (v := .int 2) rfl rfl in_X7_init_X7 tyX7 tyX7_ok nmX7 2 (by decide) (List.mem_of_getElem? (i := 12) rfl) rfl rfl rfl (Nat.le_of_ble_eq_true rfl) dX7_init_75 ?_
  refine zk_eq (X' := (.inr (7, [.ref (E.1 + (a + 1)), .int 50, .int 2, .int 0]) :: (.inl (E.2.2.1 4, 4, .inr (.inr (.inr (.inr (va_up (va_up (va_up (va_up (fun _ => none) 0 (some (E.1 + (a + 2)))) 1 (some (E.1 + (a + 3)))) 2 (some (E.1 + (a + 4)))) 3 (some (E.1 + (a + 5)))))))) :: (.inr (6, [.int 0, .int 50, .int 2000, .int 0]) :: (.inr (6, [.int 0, .int 50, .int 2000, .int 0]) :: (.inr (6, [.int 0, .int 50, .int 2000, .int 0]) :: (.inr (6, [.int 1, .int 50, .int 2000, .int 0]) :: []))))))) (congrArg (pre ++ ·) rfl) ?_
  exact zk_ret C hr dX7_init_78 (fun H h => zk_refs (j := 1) (t := 4) (n := 4) (g := fun i => some (E.1 + (a + 1 + 1 + i))) ha rfl (fun i hi => by rcases (show i = 0 ∨ i = 1 ∨ i = 2 ∨ i = 3 by omega) with rfl | rfl | rfl | rfl <;> rfl) h)
theorem in_X1_init_X0 : ∀ q ∈ u_ws RX0 TX0 5, q ∈ wsX1_init := fun _ h => List.mem_cons_of_mem _ (List.mem_append_left _ (List.mem_append_right _ h))
theorem in_X1_init_X1 : ∀ q ∈ u_ws RX1 TX1 3, q ∈ wsX1_init := fun _ h => List.mem_cons_of_mem _ (List.mem_append_left _ (List.mem_append_left _ (List.mem_append_right _ h)))
theorem in_X1_init_X7 : ∀ q ∈ u_ws RX7 TX7 4, q ∈ wsX1_init := fun _ h => List.mem_cons_of_mem _ (List.mem_append_left _ (List.mem_append_left _ (List.mem_append_left _ (List.mem_append_right _ h))))
theorem hdI_X7_init : yX7_init.cls ≠ "java/lang/invoke/MethodHandle" ∧ yX7_init.cls ≠ "java/lang/invoke/VarHandle" ∧ (parseMethodDescriptor yX7_init.desc).map (fun d => d.parameters.length) = some 0 := by decide +kernel
theorem hdI_X0_init : yX0_init.cls ≠ "java/lang/invoke/MethodHandle" ∧ yX0_init.cls ≠ "java/lang/invoke/VarHandle" ∧ (parseMethodDescriptor yX0_init.desc).map (fun d => d.parameters.length) = some 0 := by decide +kernel
set_option maxRecDepth 100000 in
set_option maxHeartbeats 4000000 in
theorem k_X1_init (l : Launch) (E : zz_E) (pre : List va_E) (a : Nat) (ha : pre.length = a) : zk_Met l yX1_init wsX1_init 3 27 484 E (.ref (E.1 + a) :: []) (pre ++ [.inr (1, [.null, .null, .int 0])]) (pre ++ zk_chand E a) := by
  refine zk_met (cc := cX1_init) (nL := 2) (ret := none) (by decide) rfl (Nat.le_of_ble_eq_true rfl) (by simp) ?_
  intro p e s m below meth c C hAO hb0 hin hr ls hl
  have C : zz_C E RX1 cX1_init 2 wsX1_init p s m _ meth c := C
  have hl : lv_has ls 2 [(0, .ref (E.1 + a))] := hl
  refine zk_eq (pre' := pre) (X' := [.inr (1, [.null, .null, .int 0])]) (List.nil_append _) ?_
  have hl : lv_has ls 2 [(0, .ref (E.1 + (a + 0)))] := hl
  refine zk_step (fun H locs k => lv_aload_n C.1.1 C.1.2.1 dX1_init_0 rfl (lv_at hl 0 rfl) k) ?_
  refine zk_obj C (List.mem_of_getElem? (i := 1) rfl) (List.mem_of_getElem? (i := 2) rfl) (List.mem_of_getElem? (i := 3) rfl) hl.1 dX1_init_1 (Nat.le_of_ble_eq_true rfl) (Nat.le_of_ble_eq_true rfl) ?_
  refine zk_step (fun H locs k => lv_aload_n C.1.1 C.1.2.1 dX1_init_4 rfl (lv_at hl 0 rfl) k) ?_
  refine zk_new (ci := 7) (fs := [.null, .int 0, .int 0, .int 0]) (nx := 1) C hb0 ha rfl in_X1_init_X7 tyX7 tyX7_ok (List.mem_of_getElem? (i := 4) rfl) (List.mem_of_getElem? (i := 5) rfl) (List.mem_of_getElem? (i := 6) rfl) rfl (fun j hj => by rcases (show j = 0 ∨ j = 1 ∨ j = 2 ∨ j = 3 by omega) with rfl | rfl | rfl | rfl <;> rfl) (Nat.le_of_ble_eq_true rfl) (Nat.le_of_ble_eq_true rfl) dX1_init_5 ?_
  refine zk_cs (cl' := 1) (sl' := 4) rfl rfl ?_
  refine zk_step (fun H locs k => lv_dup C.1.1 C.1.2.1 dX1_init_8 rfl k) ?_
  refine zk_callI (As := []) (rest := [.ref (E.1 + (a + 1)), .ref (E.1 + (a + 0))]) C hAO (zk_lift (n := 1) (k_X7_init l E) ha rfl) (cwI 0 C.1.2.2.2.2 gX1_init_X7_init rfl rfl rfl (C.1.2.2.2.2 _ (List.mem_of_getElem? (i := 6) rfl)) (C.1.2.2.2.2 _ (List.mem_of_getElem? (i := 12) rfl)) (C.1.2.2.2.2 _ (List.mem_of_getElem? (i := 13) rfl)) rfl hdI_X7_init ⟨Nat.le_of_ble_eq_true rfl, Nat.le_of_ble_eq_true rfl⟩) rfl hl.1 rfl (Nat.le_of_ble_eq_true rfl) dX1_init_9 (Nat.le_of_ble_eq_true rfl) (Nat.le_of_ble_eq_true rfl) ?_
  refine zk_cs (cl' := 6) (sl' := 24) rfl rfl ?_
  refine zk_eq (X' := (.inr (1, [.null, .null, .int 0]) :: (zk_vats E (a + 1) ++ []))) (congrArg (pre ++ ·) rfl) ?_
  refine zk_putF C hin ha 0 (v := .ref (E.1 + (a + 1))) rfl rfl in_X1_init_X1 tyX1 tyX1_ok nmX1 0 (by decide) (List.mem_of_getElem? (i := 7) rfl) rfl rfl rfl rfl (Nat.le_of_ble_eq_true rfl) dX1_init_12 ?_
  refine zk_eq (X' := (.inr (1, [.ref (E.1 + (a + 1)), .null, .int 0]) :: (zk_vats E (a + 1) ++ []))) (congrArg (pre ++ ·) rfl) ?_
  refine zk_step (fun H locs k => lv_aload_n C.1.1 C.1.2.1 dX1_init_15 rfl (lv_at hl 0 rfl) k) ?_
  refine zk_step (fun H locs k => lv_bipush (v := 10) C.1.1 C.1.2.1 dX1_init_16 (by decide) k) ?_
  refine zk_anew (t := 2) (nx := 7) (N' := 10) C ha rfl (List.mem_of_getElem? (i := 8) rfl) hAO.1 rfl (by decide) (by decide) (Nat.le_of_ble_eq_true rfl) (Nat.le_of_ble_eq_true rfl) (Nat.le_of_ble_eq_true rfl) dX1_init_18 ?_
  refine zk_cs (cl' := 7) (sl' := 34) rfl rfl ?_
  refine zk_eq (X' := (.inr (1, [.ref (E.1 + (a + 1)), .null, .int 0]) :: (zk_vats E (a + 1) ++ (.inl (E.2.2.1 2, 10, .inr (.inr (.inr (.inr (fun _ => none))))) :: [])))) (congrArg (pre ++ ·) rfl) ?_
  refine zk_putF C hin ha 0 (v := .ref (E.1 + (a + 7))) rfl rfl in_X1_init_X1 tyX1 tyX1_ok nmX1 1 (by decide) (List.mem_of_getElem? (i := 9) rfl) rfl rfl rfl rfl (Nat.le_of_ble_eq_true rfl) dX1_init_21 ?_
  refine zk_eq (X' := (.inr (1, [.ref (E.1 + (a + 1)), .ref (E.1 + (a + 7)), .int 0]) :: (zk_vats E (a + 1) ++ (.inl (E.2.2.1 2, 10, .inr (.inr (.inr (.inr (fun _ => none))))) :: [])))) (congrArg (pre ++ ·) rfl) ?_
  refine zk_step (fun H locs k => lv_iconst (v := 0) C.1.1 C.1.2.1 dX1_init_24 (by decide) k) ?_
  refine zk_istore_n (lv' := [(1, .int (0 : Int32)), (0, .ref (E.1 + (a + 0)))]) C dX1_init_25 rfl hl (by decide) rfl (fun ls hl => ?_)
  refine zk_step (fun H locs k => lv_iload_n C.1.1 C.1.2.1 dX1_init_26 rfl (lv_at hl 0 rfl) k) ?_
  refine zk_step (fun H locs k => lv_bipush (v := 10) C.1.1 C.1.2.1 dX1_init_27 (by decide) k) ?_
  refine zk_step (fun H locs k => lv_icmp_ge (tgt := 51) C.1.1 C.1.2.1 dX1_init_29 (by decide) (fun h => absurd h (by decide)) (fun _ => k)) ?_
  refine zk_step (fun H locs k => lv_aload_n C.1.1 C.1.2.1 dX1_init_32 rfl (lv_at hl 1 rfl) k) ?_
  refine zk_get C ha 0 rfl rfl in_X1_init_X1 1 (by decide) (List.mem_of_getElem? (i := 9) rfl) rfl dX1_init_33 ?_
  refine zk_step (fun H locs k => lv_iload_n C.1.1 C.1.2.1 dX1_init_36 rfl (lv_at hl 0 rfl) k) ?_
  refine zk_new (ci := 0) (fs := [.int 0, .int 0, .int 0, .int 0, .null]) (nx := 8) C hb0 ha rfl in_X1_init_X0 tyX0 tyX0_ok (List.mem_of_getElem? (i := 8) rfl) (List.mem_of_getElem? (i := 10) rfl) (List.mem_of_getElem? (i := 11) rfl) rfl (fun j hj => by rcases (show j = 0 ∨ j = 1 ∨ j = 2 ∨ j = 3 ∨ j = 4 by omega) with rfl | rfl | rfl | rfl | rfl <;> rfl) (Nat.le_of_ble_eq_true rfl) (Nat.le_of_ble_eq_true rfl) dX1_init_37 ?_
  refine zk_cs (cl' := 8) (sl' := 39) rfl rfl ?_
  refine zk_step (fun H locs k => lv_dup C.1.1 C.1.2.1 dX1_init_40 rfl k) ?_
  refine zk_callI (As := []) (rest := [.ref (E.1 + (a + 8)), .int (0 : Int32), .ref (E.1 + (a + 7))]) C hAO (zk_lift (n := 8) (k_X0_init l E) ha rfl) (cwI 0 C.1.2.2.2.2 gX1_init_X0_init rfl rfl rfl (C.1.2.2.2.2 _ (List.mem_of_getElem? (i := 11) rfl)) (C.1.2.2.2.2 _ (List.mem_of_getElem? (i := 28) rfl)) (C.1.2.2.2.2 _ (List.mem_of_getElem? (i := 29) rfl)) rfl hdI_X0_init ⟨Nat.le_of_ble_eq_true rfl, Nat.le_of_ble_eq_true rfl⟩) rfl hl.1 rfl (Nat.le_of_ble_eq_true rfl) dX1_init_41 (Nat.le_of_ble_eq_true rfl) (Nat.le_of_ble_eq_true rfl) ?_
  refine zk_cs (cl' := 9) (sl' := 79) rfl rfl ?_
  refine zk_eq (X' := (.inr (1, [.ref (E.1 + (a + 1)), .ref (E.1 + (a + 7)), .int 0]) :: (zk_vats E (a + 1) ++ (.inl (E.2.2.1 2, 10, .inr (.inr (.inr (.inr (fun _ => none))))) :: (zk_candle E (a + 8) ++ []))))) (congrArg (pre ++ ·) rfl) ?_
  refine zk_aast C ha 7 2 8 rfl rfl rfl rfl (by decide) dX1_init_44 ?_
  refine zk_eq (X' := (.inr (1, [.ref (E.1 + (a + 1)), .ref (E.1 + (a + 7)), .int 0]) :: (zk_vats E (a + 1) ++ (.inl (E.2.2.1 2, 10, .inr (.inr (.inr (.inr (va_up (fun _ => none) 0 (some (E.1 + (a + 8)))))))) :: (zk_candle E (a + 8) ++ []))))) (congrArg (pre ++ ·) rfl) ?_
  refine zk_iinc (k9 := 0) (v := 1) (lv' := [(1, .int (1 : Int32)), (0, .ref (E.1 + (a + 0)))]) C dX1_init_45 hl rfl (by decide) (by decide) rfl (fun ls hl => ?_)
  refine zk_step (fun H locs k => lv_goto (tgt := 26) C.1.1 C.1.2.1 dX1_init_48 (by decide) k) ?_
  refine zk_step (fun H locs k => lv_iload_n C.1.1 C.1.2.1 dX1_init_26 rfl (lv_at hl 0 rfl) k) ?_
  refine zk_step (fun H locs k => lv_bipush (v := 10) C.1.1 C.1.2.1 dX1_init_27 (by decide) k) ?_
  refine zk_step (fun H locs k => lv_icmp_ge (tgt := 51) C.1.1 C.1.2.1 dX1_init_29 (by decide) (fun h => absurd h (by decide)) (fun _ => k)) ?_
  refine zk_step (fun H locs k => lv_aload_n C.1.1 C.1.2.1 dX1_init_32 rfl (lv_at hl 1 rfl) k) ?_
  refine zk_get C ha 0 rfl rfl in_X1_init_X1 1 (by decide) (List.mem_of_getElem? (i := 9) rfl) rfl dX1_init_33 ?_
  refine zk_step (fun H locs k => lv_iload_n C.1.1 C.1.2.1 dX1_init_36 rfl (lv_at hl 0 rfl) k) ?_
  refine zk_new (ci := 0) (fs := [.int 0, .int 0, .int 0, .int 0, .null]) (nx := 10) C hb0 ha rfl in_X1_init_X0 tyX0 tyX0_ok (List.mem_of_getElem? (i := 8) rfl) (List.mem_of_getElem? (i := 10) rfl) (List.mem_of_getElem? (i := 11) rfl) rfl (fun j hj => by rcases (show j = 0 ∨ j = 1 ∨ j = 2 ∨ j = 3 ∨ j = 4 by omega) with rfl | rfl | rfl | rfl | rfl <;> rfl) (Nat.le_of_ble_eq_true rfl) (Nat.le_of_ble_eq_true rfl) dX1_init_37 ?_
  refine zk_cs (cl' := 10) (sl' := 84) rfl rfl ?_
  refine zk_step (fun H locs k => lv_dup C.1.1 C.1.2.1 dX1_init_40 rfl k) ?_
  refine zk_callI (As := []) (rest := [.ref (E.1 + (a + 10)), .int (1 : Int32), .ref (E.1 + (a + 7))]) C hAO (zk_lift (n := 10) (k_X0_init l E) ha rfl) (cwI 0 C.1.2.2.2.2 gX1_init_X0_init rfl rfl rfl (C.1.2.2.2.2 _ (List.mem_of_getElem? (i := 11) rfl)) (C.1.2.2.2.2 _ (List.mem_of_getElem? (i := 28) rfl)) (C.1.2.2.2.2 _ (List.mem_of_getElem? (i := 29) rfl)) rfl hdI_X0_init ⟨Nat.le_of_ble_eq_true rfl, Nat.le_of_ble_eq_true rfl⟩) rfl hl.1 rfl (Nat.le_of_ble_eq_true rfl) dX1_init_41 (Nat.le_of_ble_eq_true rfl) (Nat.le_of_ble_eq_true rfl) ?_
  refine zk_cs (cl' := 11) (sl' := 124) rfl rfl ?_
  refine zk_eq (X' := (.inr (1, [.ref (E.1 + (a + 1)), .ref (E.1 + (a + 7)), .int 0]) :: (zk_vats E (a + 1) ++ (.inl (E.2.2.1 2, 10, .inr (.inr (.inr (.inr (va_up (fun _ => none) 0 (some (E.1 + (a + 8)))))))) :: (zk_candle E (a + 8) ++ (zk_candle E (a + 10) ++ [])))))) (congrArg (pre ++ ·) rfl) ?_
  refine zk_aast C ha 7 2 10 rfl rfl rfl rfl (by decide) dX1_init_44 ?_
  refine zk_eq (X' := (.inr (1, [.ref (E.1 + (a + 1)), .ref (E.1 + (a + 7)), .int 0]) :: (zk_vats E (a + 1) ++ (.inl (E.2.2.1 2, 10, .inr (.inr (.inr (.inr (va_up (va_up (fun _ => none) 0 (some (E.1 + (a + 8)))) 1 (some (E.1 + (a + 10)))))))) :: (zk_candle E (a + 8) ++ (zk_candle E (a + 10) ++ [])))))) (congrArg (pre ++ ·) rfl) ?_
  refine zk_iinc (k9 := 0) (v := 2) (lv' := [(1, .int (2 : Int32)), (0, .ref (E.1 + (a + 0)))]) C dX1_init_45 hl rfl (by decide) (by decide) rfl (fun ls hl => ?_)
  refine zk_step (fun H locs k => lv_goto (tgt := 26) C.1.1 C.1.2.1 dX1_init_48 (by decide) k) ?_
  refine zk_step (fun H locs k => lv_iload_n C.1.1 C.1.2.1 dX1_init_26 rfl (lv_at hl 0 rfl) k) ?_
  refine zk_step (fun H locs k => lv_bipush (v := 10) C.1.1 C.1.2.1 dX1_init_27 (by decide) k) ?_
  refine zk_step (fun H locs k => lv_icmp_ge (tgt := 51) C.1.1 C.1.2.1 dX1_init_29 (by decide) (fun h => absurd h (by decide)) (fun _ => k)) ?_
  refine zk_step (fun H locs k => lv_aload_n C.1.1 C.1.2.1 dX1_init_32 rfl (lv_at hl 1 rfl) k) ?_
  refine zk_get C ha 0 rfl rfl in_X1_init_X1 1 (by decide) (List.mem_of_getElem? (i := 9) rfl) rfl dX1_init_33 ?_
  refine zk_step (fun H locs k => lv_iload_n C.1.1 C.1.2.1 dX1_init_36 rfl (lv_at hl 0 rfl) k) ?_
  refine zk_new (ci := 0) (fs := [.int 0, .int 0, .int 0, .int 0, .null]) (nx := 12) C hb0 ha rfl in_X1_init_X0 tyX0 tyX0_ok (List.mem_of_getElem? (i := 8) rfl) (List.mem_of_getElem? (i := 10) rfl) (List.mem_of_getElem? (i := 11) rfl) rfl (fun j hj => by rcases (show j = 0 ∨ j = 1 ∨ j = 2 ∨ j = 3 ∨ j = 4 by omega) with rfl | rfl | rfl | rfl | rfl <;> rfl) (Nat.le_of_ble_eq_true rfl) (Nat.le_of_ble_eq_true rfl) dX1_init_37 ?_
  refine zk_cs (cl' := 12) (sl' := 129) rfl rfl ?_
  refine zk_step (fun H locs k => lv_dup C.1.1 C.1.2.1 dX1_init_40 rfl k) ?_
  refine zk_callI (As := []) (rest := [.ref (E.1 + (a + 12)), .int (2 : Int32), .ref (E.1 + (a + 7))]) C hAO (zk_lift (n := 12) (k_X0_init l E) ha rfl) (cwI 0 C.1.2.2.2.2 gX1_init_X0_init rfl rfl rfl (C.1.2.2.2.2 _ (List.mem_of_getElem? (i := 11) rfl)) (C.1.2.2.2.2 _ (List.mem_of_getElem? (i := 28) rfl)) (C.1.2.2.2.2 _ (List.mem_of_getElem? (i := 29) rfl)) rfl hdI_X0_init ⟨Nat.le_of_ble_eq_true rfl, Nat.le_of_ble_eq_true rfl⟩) rfl hl.1 rfl (Nat.le_of_ble_eq_true rfl) dX1_init_41 (Nat.le_of_ble_eq_true rfl) (Nat.le_of_ble_eq_true rfl) ?_
  refine zk_cs (cl' := 13) (sl' := 169) rfl rfl ?_
  refine zk_eq (X' := (.inr (1, [.ref (E.1 + (a + 1)), .ref (E.1 + (a + 7)), .int 0]) :: (zk_vats E (a + 1) ++ (.inl (E.2.2.1 2, 10, .inr (.inr (.inr (.inr (va_up (va_up (fun _ => none) 0 (some (E.1 + (a + 8)))) 1 (some (E.1 + (a + 10)))))))) :: (zk_candle E (a + 8) ++ (zk_candle E (a + 10) ++ (zk_candle E (a + 12) ++ []))))))) (congrArg (pre ++ ·) rfl) ?_
  refine zk_aast C ha 7 2 12 rfl rfl rfl rfl (by decide) dX1_init_44 ?_
  refine zk_eq (X' := (.inr (1, [.ref (E.1 + (a + 1)), .ref (E.1 + (a + 7)), .int 0]) :: (zk_vats E (a + 1) ++ (.inl (E.2.2.1 2, 10, .inr (.inr (.inr (.inr (va_up (va_up (va_up (fun _ => none) 0 (some (E.1 + (a + 8)))) 1 (some (E.1 + (a + 10)))) 2 (some (E.1 + (a + 12)))))))) :: (zk_candle E (a + 8) ++ (zk_candle E (a + 10) ++ (zk_candle E (a + 12) ++ []))))))) (congrArg (pre ++ ·) rfl) ?_
  refine zk_iinc (k9 := 0) (v := 3) (lv' := [(1, .int (3 : Int32)), (0, .ref (E.1 + (a + 0)))]) C dX1_init_45 hl rfl (by decide) (by decide) rfl (fun ls hl => ?_)
  refine zk_step (fun H locs k => lv_goto (tgt := 26) C.1.1 C.1.2.1 dX1_init_48 (by decide) k) ?_
  refine zk_step (fun H locs k => lv_iload_n C.1.1 C.1.2.1 dX1_init_26 rfl (lv_at hl 0 rfl) k) ?_
  refine zk_step (fun H locs k => lv_bipush (v := 10) C.1.1 C.1.2.1 dX1_init_27 (by decide) k) ?_
  refine zk_step (fun H locs k => lv_icmp_ge (tgt := 51) C.1.1 C.1.2.1 dX1_init_29 (by decide) (fun h => absurd h (by decide)) (fun _ => k)) ?_
  refine zk_step (fun H locs k => lv_aload_n C.1.1 C.1.2.1 dX1_init_32 rfl (lv_at hl 1 rfl) k) ?_
  refine zk_get C ha 0 rfl rfl in_X1_init_X1 1 (by decide) (List.mem_of_getElem? (i := 9) rfl) rfl dX1_init_33 ?_
  refine zk_step (fun H locs k => lv_iload_n C.1.1 C.1.2.1 dX1_init_36 rfl (lv_at hl 0 rfl) k) ?_
  refine zk_new (ci := 0) (fs := [.int 0, .int 0, .int 0, .int 0, .null]) (nx := 14) C hb0 ha rfl in_X1_init_X0 tyX0 tyX0_ok (List.mem_of_getElem? (i := 8) rfl) (List.mem_of_getElem? (i := 10) rfl) (List.mem_of_getElem? (i := 11) rfl) rfl (fun j hj => by rcases (show j = 0 ∨ j = 1 ∨ j = 2 ∨ j = 3 ∨ j = 4 by omega) with rfl | rfl | rfl | rfl | rfl <;> rfl) (Nat.le_of_ble_eq_true rfl) (Nat.le_of_ble_eq_true rfl) dX1_init_37 ?_
  refine zk_cs (cl' := 14) (sl' := 174) rfl rfl ?_
  refine zk_step (fun H locs k => lv_dup C.1.1 C.1.2.1 dX1_init_40 rfl k) ?_
  refine zk_callI (As := []) (rest := [.ref (E.1 + (a + 14)), .int (3 : Int32), .ref (E.1 + (a + 7))]) C hAO (zk_lift (n := 14) (k_X0_init l E) ha rfl) (cwI 0 C.1.2.2.2.2 gX1_init_X0_init rfl rfl rfl (C.1.2.2.2.2 _ (List.mem_of_getElem? (i := 11) rfl)) (C.1.2.2.2.2 _ (List.mem_of_getElem? (i := 28) rfl)) (C.1.2.2.2.2 _ (List.mem_of_getElem? (i := 29) rfl)) rfl hdI_X0_init ⟨Nat.le_of_ble_eq_true rfl, Nat.le_of_ble_eq_true rfl⟩) rfl hl.1 rfl (Nat.le_of_ble_eq_true rfl) dX1_init_41 (Nat.le_of_ble_eq_true rfl) (Nat.le_of_ble_eq_true rfl) ?_
  refine zk_cs (cl' := 15) (sl' := 214) rfl rfl ?_
  refine zk_eq (X' := (.inr (1, [.ref (E.1 + (a + 1)), .ref (E.1 + (a + 7)), .int 0]) :: (zk_vats E (a + 1) ++ (.inl (E.2.2.1 2, 10, .inr (.inr (.inr (.inr (va_up (va_up (va_up (fun _ => none) 0 (some (E.1 + (a + 8)))) 1 (some (E.1 + (a + 10)))) 2 (some (E.1 + (a + 12)))))))) :: (zk_candle E (a + 8) ++ (zk_candle E (a + 10) ++ (zk_candle E (a + 12) ++ (zk_candle E (a + 14) ++ [])))))))) (congrArg (pre ++ ·) rfl) ?_
  refine zk_aast C ha 7 2 14 rfl rfl rfl rfl (by decide) dX1_init_44 ?_
  refine zk_eq (X' := (.inr (1, [.ref (E.1 + (a + 1)), .ref (E.1 + (a + 7)), .int 0]) :: (zk_vats E (a + 1) ++ (.inl (E.2.2.1 2, 10, .inr (.inr (.inr (.inr (va_up (va_up (va_up (va_up (fun _ => none) 0 (some (E.1 + (a + 8)))) 1 (some (E.1 + (a + 10)))) 2 (some (E.1 + (a + 12)))) 3 (some (E.1 + (a + 14)))))))) :: (zk_candle E (a + 8) ++ (zk_candle E (a + 10) ++ (zk_candle E (a + 12) ++ (zk_candle E (a + 14) ++ [])))))))) (congrArg (pre ++ ·) rfl) ?_
  refine zk_iinc (k9 := 0) (v := 4) (lv' := [(1, .int (4 : Int32)), (0, .ref (E.1 + (a + 0)))]) C dX1_init_45 hl rfl (by decide) (by decide) rfl (fun ls hl => ?_)
  refine zk_step (fun H locs k => lv_goto (tgt := 26) C.1.1 C.1.2.1 dX1_init_48 (by decide) k) ?_
  refine zk_step (fun H locs k => lv_iload_n C.1.1 C.1.2.1 dX1_init_26 rfl (lv_at hl 0 rfl) k) ?_
  refine zk_step (fun H locs k => lv_bipush (v := 10) C.1.1 C.1.2.1 dX1_init_27 (by decide) k) ?_
  refine zk_step (fun H locs k => lv_icmp_ge (tgt := 51) C.1.1 C.1.2.1 dX1_init_29 (by decide) (fun h => absurd h (by decide)) (fun _ => k)) ?_
  refine zk_step (fun H locs k => lv_aload_n C.1.1 C.1.2.1 dX1_init_32 rfl (lv_at hl 1 rfl) k) ?_
  refine zk_get C ha 0 rfl rfl in_X1_init_X1 1 (by decide) (List.mem_of_getElem? (i := 9) rfl) rfl dX1_init_33 ?_
  refine zk_step (fun H locs k => lv_iload_n C.1.1 C.1.2.1 dX1_init_36 rfl (lv_at hl 0 rfl) k) ?_
  refine zk_new (ci := 0) (fs := [.int 0, .int 0, .int 0, .int 0, .null]) (nx := 16) C hb0 ha rfl in_X1_init_X0 tyX0 tyX0_ok (List.mem_of_getElem? (i := 8) rfl) (List.mem_of_getElem? (i := 10) rfl) (List.mem_of_getElem? (i := 11) rfl) rfl (fun j hj => by rcases (show j = 0 ∨ j = 1 ∨ j = 2 ∨ j = 3 ∨ j = 4 by omega) with rfl | rfl | rfl | rfl | rfl <;> rfl) (Nat.le_of_ble_eq_true rfl) (Nat.le_of_ble_eq_true rfl) dX1_init_37 ?_
  refine zk_cs (cl' := 16) (sl' := 219) rfl rfl ?_
  refine zk_step (fun H locs k => lv_dup C.1.1 C.1.2.1 dX1_init_40 rfl k) ?_
  refine zk_callI (As := []) (rest := [.ref (E.1 + (a + 16)), .int (4 : Int32), .ref (E.1 + (a + 7))]) C hAO (zk_lift (n := 16) (k_X0_init l E) ha rfl) (cwI 0 C.1.2.2.2.2 gX1_init_X0_init rfl rfl rfl (C.1.2.2.2.2 _ (List.mem_of_getElem? (i := 11) rfl)) (C.1.2.2.2.2 _ (List.mem_of_getElem? (i := 28) rfl)) (C.1.2.2.2.2 _ (List.mem_of_getElem? (i := 29) rfl)) rfl hdI_X0_init ⟨Nat.le_of_ble_eq_true rfl, Nat.le_of_ble_eq_true rfl⟩) rfl hl.1 rfl (Nat.le_of_ble_eq_true rfl) dX1_init_41 (Nat.le_of_ble_eq_true rfl) (Nat.le_of_ble_eq_true rfl) ?_
  refine zk_cs (cl' := 17) (sl' := 259) rfl rfl ?_
  refine zk_eq (X' := (.inr (1, [.ref (E.1 + (a + 1)), .ref (E.1 + (a + 7)), .int 0]) :: (zk_vats E (a + 1) ++ (.inl (E.2.2.1 2, 10, .inr (.inr (.inr (.inr (va_up (va_up (va_up (va_up (fun _ => none) 0 (some (E.1 + (a + 8)))) 1 (some (E.1 + (a + 10)))) 2 (some (E.1 + (a + 12)))) 3 (some (E.1 + (a + 14)))))))) :: (zk_candle E (a + 8) ++ (zk_candle E (a + 10) ++ (zk_candle E (a + 12) ++ (zk_candle E (a + 14) ++ (zk_candle E (a + 16) ++ []))))))))) (congrArg (pre ++ ·) rfl) ?_
  refine zk_aast C ha 7 2 16 rfl rfl rfl rfl (by decide) dX1_init_44 ?_
  refine zk_eq (X' := (.inr (1, [.ref (E.1 + (a + 1)), .ref (E.1 + (a + 7)), .int 0]) :: (zk_vats E (a + 1) ++ (.inl (E.2.2.1 2, 10, .inr (.inr (.inr (.inr (va_up (va_up (va_up (va_up (va_up (fun _ => none) 0 (some (E.1 + (a + 8)))) 1 (some (E.1 + (a + 10)))) 2 (some (E.1 + (a + 12)))) 3 (some (E.1 + (a + 14)))) 4 (some (E.1 + (a + 16)))))))) :: (zk_candle E (a + 8) ++ (zk_candle E (a + 10) ++ (zk_candle E (a + 12) ++ (zk_candle E (a + 14) ++ (zk_candle E (a + 16) ++ []))))))))) (congrArg (pre ++ ·) rfl) ?_
  refine zk_iinc (k9 := 0) (v := 5) (lv' := [(1, .int (5 : Int32)), (0, .ref (E.1 + (a + 0)))]) C dX1_init_45 hl rfl (by decide) (by decide) rfl (fun ls hl => ?_)
  refine zk_step (fun H locs k => lv_goto (tgt := 26) C.1.1 C.1.2.1 dX1_init_48 (by decide) k) ?_
  refine zk_step (fun H locs k => lv_iload_n C.1.1 C.1.2.1 dX1_init_26 rfl (lv_at hl 0 rfl) k) ?_
  refine zk_step (fun H locs k => lv_bipush (v := 10) C.1.1 C.1.2.1 dX1_init_27 (by decide) k) ?_
  refine zk_step (fun H locs k => lv_icmp_ge (tgt := 51) C.1.1 C.1.2.1 dX1_init_29 (by decide) (fun h => absurd h (by decide)) (fun _ => k)) ?_
  refine zk_step (fun H locs k => lv_aload_n C.1.1 C.1.2.1 dX1_init_32 rfl (lv_at hl 1 rfl) k) ?_
  refine zk_get C ha 0 rfl rfl in_X1_init_X1 1 (by decide) (List.mem_of_getElem? (i := 9) rfl) rfl dX1_init_33 ?_
  refine zk_step (fun H locs k => lv_iload_n C.1.1 C.1.2.1 dX1_init_36 rfl (lv_at hl 0 rfl) k) ?_
  refine zk_new (ci := 0) (fs := [.int 0, .int 0, .int 0, .int 0, .null]) (nx := 18) C hb0 ha rfl in_X1_init_X0 tyX0 tyX0_ok (List.mem_of_getElem? (i := 8) rfl) (List.mem_of_getElem? (i := 10) rfl) (List.mem_of_getElem? (i := 11) rfl) rfl (fun j hj => by rcases (show j = 0 ∨ j = 1 ∨ j = 2 ∨ j = 3 ∨ j = 4 by omega) with rfl | rfl | rfl | rfl | rfl <;> rfl) (Nat.le_of_ble_eq_true rfl) (Nat.le_of_ble_eq_true rfl) dX1_init_37 ?_
  refine zk_cs (cl' := 18) (sl' := 264) rfl rfl ?_
  refine zk_step (fun H locs k => lv_dup C.1.1 C.1.2.1 dX1_init_40 rfl k) ?_
  refine zk_callI (As := []) (rest := [.ref (E.1 + (a + 18)), .int (5 : Int32), .ref (E.1 + (a + 7))]) C hAO (zk_lift (n := 18) (k_X0_init l E) ha rfl) (cwI 0 C.1.2.2.2.2 gX1_init_X0_init rfl rfl rfl (C.1.2.2.2.2 _ (List.mem_of_getElem? (i := 11) rfl)) (C.1.2.2.2.2 _ (List.mem_of_getElem? (i := 28) rfl)) (C.1.2.2.2.2 _ (List.mem_of_getElem? (i := 29) rfl)) rfl hdI_X0_init ⟨Nat.le_of_ble_eq_true rfl, Nat.le_of_ble_eq_true rfl⟩) rfl hl.1 rfl (Nat.le_of_ble_eq_true rfl) dX1_init_41 (Nat.le_of_ble_eq_true rfl) (Nat.le_of_ble_eq_true rfl) ?_
  refine zk_cs (cl' := 19) (sl' := 304) rfl rfl ?_
  refine zk_eq (X' := (.inr (1, [.ref (E.1 + (a + 1)), .ref (E.1 + (a + 7)), .int 0]) :: (zk_vats E (a + 1) ++ (.inl (E.2.2.1 2, 10, .inr (.inr (.inr (.inr (va_up (va_up (va_up (va_up (va_up (fun _ => none) 0 (some (E.1 + (a + 8)))) 1 (some (E.1 + (a + 10)))) 2 (some (E.1 + (a + 12)))) 3 (some (E.1 + (a + 14)))) 4 (some (E.1 + (a + 16)))))))) :: (zk_candle E (a + 8) ++ (zk_candle E (a + 10) ++ (zk_candle E (a + 12) ++ (zk_candle E (a + 14) ++ (zk_candle E (a + 16) ++ (zk_candle E (a + 18) ++ [])))))))))) (congrArg (pre ++ ·) rfl) ?_
  refine zk_aast C ha 7 2 18 rfl rfl rfl rfl (by decide) dX1_init_44 ?_
  refine zk_eq (X' := (.inr (1, [.ref (E.1 + (a + 1)), .ref (E.1 + (a + 7)), .int 0]) :: (zk_vats E (a + 1) ++ (.inl (E.2.2.1 2, 10, .inr (.inr (.inr (.inr (va_up (va_up (va_up (va_up (va_up (va_up (fun _ => none) 0 (some (E.1 + (a + 8)))) 1 (some (E.1 + (a + 10)))) 2 (some (E.1 + (a + 12)))) 3 (some (E.1 + (a + 14)))) 4 (some (E.1 + (a + 16)))) 5 (some (E.1 + (a + 18)))))))) :: (zk_candle E (a + 8) ++ (zk_candle E (a + 10) ++ (zk_candle E (a + 12) ++ (zk_candle E (a + 14) ++ (zk_candle E (a + 16) ++ (zk_candle E (a + 18) ++ [])))))))))) (congrArg (pre ++ ·) rfl) ?_
  refine zk_iinc (k9 := 0) (v := 6) (lv' := [(1, .int (6 : Int32)), (0, .ref (E.1 + (a + 0)))]) C dX1_init_45 hl rfl (by decide) (by decide) rfl (fun ls hl => ?_)
  refine zk_step (fun H locs k => lv_goto (tgt := 26) C.1.1 C.1.2.1 dX1_init_48 (by decide) k) ?_
  refine zk_step (fun H locs k => lv_iload_n C.1.1 C.1.2.1 dX1_init_26 rfl (lv_at hl 0 rfl) k) ?_
  refine zk_step (fun H locs k => lv_bipush (v := 10) C.1.1 C.1.2.1 dX1_init_27 (by decide) k) ?_
  refine zk_step (fun H locs k => lv_icmp_ge (tgt := 51) C.1.1 C.1.2.1 dX1_init_29 (by decide) (fun h => absurd h (by decide)) (fun _ => k)) ?_
  refine zk_step (fun H locs k => lv_aload_n C.1.1 C.1.2.1 dX1_init_32 rfl (lv_at hl 1 rfl) k) ?_
  refine zk_get C ha 0 rfl rfl in_X1_init_X1 1 (by decide) (List.mem_of_getElem? (i := 9) rfl) rfl dX1_init_33 ?_
  refine zk_step (fun H locs k => lv_iload_n C.1.1 C.1.2.1 dX1_init_36 rfl (lv_at hl 0 rfl) k) ?_
  refine zk_new (ci := 0) (fs := [.int 0, .int 0, .int 0, .int 0, .null]) (nx := 20) C hb0 ha rfl in_X1_init_X0 tyX0 tyX0_ok (List.mem_of_getElem? (i := 8) rfl) (List.mem_of_getElem? (i := 10) rfl) (List.mem_of_getElem? (i := 11) rfl) rfl (fun j hj => by rcases (show j = 0 ∨ j = 1 ∨ j = 2 ∨ j = 3 ∨ j = 4 by omega) with rfl | rfl | rfl | rfl | rfl <;> rfl) (Nat.le_of_ble_eq_true rfl) (Nat.le_of_ble_eq_true rfl) dX1_init_37 ?_
  refine zk_cs (cl' := 20) (sl' := 309) rfl rfl ?_
  refine zk_step (fun H locs k => lv_dup C.1.1 C.1.2.1 dX1_init_40 rfl k) ?_
  refine zk_callI (As := []) (rest := [.ref (E.1 + (a + 20)), .int (6 : Int32), .ref (E.1 + (a + 7))]) C hAO (zk_lift (n := 20) (k_X0_init l E) ha rfl) (cwI 0 C.1.2.2.2.2 gX1_init_X0_init rfl rfl rfl (C.1.2.2.2.2 _ (List.mem_of_getElem? (i := 11) rfl)) (C.1.2.2.2.2 _ (List.mem_of_getElem? (i := 28) rfl)) (C.1.2.2.2.2 _ (List.mem_of_getElem? (i := 29) rfl)) rfl hdI_X0_init ⟨Nat.le_of_ble_eq_true rfl, Nat.le_of_ble_eq_true rfl⟩) rfl hl.1 rfl (Nat.le_of_ble_eq_true rfl) dX1_init_41 (Nat.le_of_ble_eq_true rfl) (Nat.le_of_ble_eq_true rfl) ?_
  refine zk_cs (cl' := 21) (sl' := 349) rfl rfl ?_
  refine zk_eq (X' := (.inr (1, [.ref (E.1 + (a + 1)), .ref (E.1 + (a + 7)), .int 0]) :: (zk_vats E (a + 1) ++ (.inl (E.2.2.1 2, 10, .inr (.inr (.inr (.inr (va_up (va_up (va_up (va_up (va_up (va_up (fun _ => none) 0 (some (E.1 + (a + 8)))) 1 (some (E.1 + (a + 10)))) 2 (some (E.1 + (a + 12)))) 3 (some (E.1 + (a + 14)))) 4 (some (E.1 + (a + 16)))) 5 (some (E.1 + (a + 18)))))))) :: (zk_candle E (a + 8) ++ (zk_candle E (a + 10) ++ (zk_candle E (a + 12) ++ (zk_candle E (a + 14) ++ (zk_candle E (a + 16) ++ (zk_candle E (a + 18) ++ (zk_candle E (a + 20) ++ []))))))))))) (congrArg (pre ++ ·) rfl) ?_
  refine zk_aast C ha 7 2 20 rfl rfl rfl rfl (by decide) dX1_init_44 ?_
  refine zk_eq (X' := (.inr (1, [.ref (E.1 + (a + 1)), .ref (E.1 + (a + 7)), .int 0]) :: (zk_vats E (a + 1) ++ (.inl (E.2.2.1 2, 10, .inr (.inr (.inr (.inr (va_up (va_up (va_up (va_up (va_up (va_up (va_up (fun _ => none) 0 (some (E.1 + (a + 8)))) 1 (some (E.1 + (a + 10)))) 2 (some (E.1 + (a + 12)))) 3 (some (E.1 + (a + 14)))) 4 (some (E.1 + (a + 16)))) 5 (some (E.1 + (a + 18)))) 6 (some (E.1 + (a + 20)))))))) :: (zk_candle E (a + 8) ++ (zk_candle E (a + 10) ++ (zk_candle E (a + 12) ++ (zk_candle E (a + 14) ++ (zk_candle E (a + 16) ++ (zk_candle E (a + 18) ++ (zk_candle E (a + 20) ++ []))))))))))) (congrArg (pre ++ ·) rfl) ?_
  refine zk_iinc (k9 := 0) (v := 7) (lv' := [(1, .int (7 : Int32)), (0, .ref (E.1 + (a + 0)))]) C dX1_init_45 hl rfl (by decide) (by decide) rfl (fun ls hl => ?_)
  refine zk_step (fun H locs k => lv_goto (tgt := 26) C.1.1 C.1.2.1 dX1_init_48 (by decide) k) ?_
  refine zk_step (fun H locs k => lv_iload_n C.1.1 C.1.2.1 dX1_init_26 rfl (lv_at hl 0 rfl) k) ?_
  refine zk_step (fun H locs k => lv_bipush (v := 10) C.1.1 C.1.2.1 dX1_init_27 (by decide) k) ?_
  refine zk_step (fun H locs k => lv_icmp_ge (tgt := 51) C.1.1 C.1.2.1 dX1_init_29 (by decide) (fun h => absurd h (by decide)) (fun _ => k)) ?_
  refine zk_step (fun H locs k => lv_aload_n C.1.1 C.1.2.1 dX1_init_32 rfl (lv_at hl 1 rfl) k) ?_
  refine zk_get C ha 0 rfl rfl in_X1_init_X1 1 (by decide) (List.mem_of_getElem? (i := 9) rfl) rfl dX1_init_33 ?_
  refine zk_step (fun H locs k => lv_iload_n C.1.1 C.1.2.1 dX1_init_36 rfl (lv_at hl 0 rfl) k) ?_
  refine zk_new (ci := 0) (fs := [.int 0, .int 0, .int 0, .int 0, .null]) (nx := 22) C hb0 ha rfl in_X1_init_X0 tyX0 tyX0_ok (List.mem_of_getElem? (i := 8) rfl) (List.mem_of_getElem? (i := 10) rfl) (List.mem_of_getElem? (i := 11) rfl) rfl (fun j hj => by rcases (show j = 0 ∨ j = 1 ∨ j = 2 ∨ j = 3 ∨ j = 4 by omega) with rfl | rfl | rfl | rfl | rfl <;> rfl) (Nat.le_of_ble_eq_true rfl) (Nat.le_of_ble_eq_true rfl) dX1_init_37 ?_
  refine zk_cs (cl' := 22) (sl' := 354) rfl rfl ?_
  refine zk_step (fun H locs k => lv_dup C.1.1 C.1.2.1 dX1_init_40 rfl k) ?_
  refine zk_callI (As := []) (rest := [.ref (E.1 + (a + 22)), .int (7 : Int32), .ref (E.1 + (a + 7))]) C hAO (zk_lift (n := 22) (k_X0_init l E) ha rfl) (cwI 0 C.1.2.2.2.2 gX1_init_X0_init rfl rfl rfl (C.1.2.2.2.2 _ (List.mem_of_getElem? (i := 11) rfl)) (C.1.2.2.2.2 _ (List.mem_of_getElem? (i := 28) rfl)) (C.1.2.2.2.2 _ (List.mem_of_getElem? (i := 29) rfl)) rfl hdI_X0_init ⟨Nat.le_of_ble_eq_true rfl, Nat.le_of_ble_eq_true rfl⟩) rfl hl.1 rfl (Nat.le_of_ble_eq_true rfl) dX1_init_41 (Nat.le_of_ble_eq_true rfl) (Nat.le_of_ble_eq_true rfl) ?_
  refine zk_cs (cl' := 23) (sl' := 394) rfl rfl ?_
  refine zk_eq (X' := (.inr (1, [.ref (E.1 + (a + 1)), .ref (E.1 + (a + 7)), .int 0]) :: (zk_vats E (a + 1) ++ (.inl (E.2.2.1 2, 10, .inr (.inr (.inr (.inr (va_up (va_up (va_up (va_up (va_up (va_up (va_up (fun _ => none) 0 (some (E.1 + (a + 8)))) 1 (some (E.1 + (a + 10)))) 2 (some (E.1 + (a + 12)))) 3 (some (E.1 + (a + 14)))) 4 (some (E.1 + (a + 16)))) 5 (some (E.1 + (a + 18)))) 6 (some (E.1 + (a + 20)))))))) :: (zk_candle E (a + 8) ++ (zk_candle E (a + 10) ++ (zk_candle E (a + 12) ++ (zk_candle E (a + 14) ++ (zk_candle E (a + 16) ++ (zk_candle E (a + 18) ++ (zk_candle E (a + 20) ++ (zk_candle E (a + 22) ++ [])))))))))))) (congrArg (pre ++ ·) rfl) ?_
  refine zk_aast C ha 7 2 22 rfl rfl rfl rfl (by decide) dX1_init_44 ?_
  refine zk_eq (X' := (.inr (1, [.ref (E.1 + (a + 1)), .ref (E.1 + (a + 7)), .int 0]) :: (zk_vats E (a + 1) ++ (.inl (E.2.2.1 2, 10, .inr (.inr (.inr (.inr (va_up (va_up (va_up (va_up (va_up (va_up (va_up (va_up (fun _ => none) 0 (some (E.1 + (a + 8)))) 1 (some (E.1 + (a + 10)))) 2 (some (E.1 + (a + 12)))) 3 (some (E.1 + (a + 14)))) 4 (some (E.1 + (a + 16)))) 5 (some (E.1 + (a + 18)))) 6 (some (E.1 + (a + 20)))) 7 (some (E.1 + (a + 22)))))))) :: (zk_candle E (a + 8) ++ (zk_candle E (a + 10) ++ (zk_candle E (a + 12) ++ (zk_candle E (a + 14) ++ (zk_candle E (a + 16) ++ (zk_candle E (a + 18) ++ (zk_candle E (a + 20) ++ (zk_candle E (a + 22) ++ [])))))))))))) (congrArg (pre ++ ·) rfl) ?_
  refine zk_iinc (k9 := 0) (v := 8) (lv' := [(1, .int (8 : Int32)), (0, .ref (E.1 + (a + 0)))]) C dX1_init_45 hl rfl (by decide) (by decide) rfl (fun ls hl => ?_)
  refine zk_step (fun H locs k => lv_goto (tgt := 26) C.1.1 C.1.2.1 dX1_init_48 (by decide) k) ?_
  refine zk_step (fun H locs k => lv_iload_n C.1.1 C.1.2.1 dX1_init_26 rfl (lv_at hl 0 rfl) k) ?_
  refine zk_step (fun H locs k => lv_bipush (v := 10) C.1.1 C.1.2.1 dX1_init_27 (by decide) k) ?_
  refine zk_step (fun H locs k => lv_icmp_ge (tgt := 51) C.1.1 C.1.2.1 dX1_init_29 (by decide) (fun h => absurd h (by decide)) (fun _ => k)) ?_
  refine zk_step (fun H locs k => lv_aload_n C.1.1 C.1.2.1 dX1_init_32 rfl (lv_at hl 1 rfl) k) ?_
  refine zk_get C ha 0 rfl rfl in_X1_init_X1 1 (by decide) (List.mem_of_getElem? (i := 9) rfl) rfl dX1_init_33 ?_
  refine zk_step (fun H locs k => lv_iload_n C.1.1 C.1.2.1 dX1_init_36 rfl (lv_at hl 0 rfl) k) ?_
  refine zk_new (ci := 0) (fs := [.int 0, .int 0, .int 0, .int 0, .null]) (nx := 24) C hb0 ha rfl in_X1_init_X0 tyX0 tyX0_ok (List.mem_of_getElem? (i := 8) rfl) (List.mem_of_getElem? (i := 10) rfl) (List.mem_of_getElem? (i := 11) rfl) rfl (fun j hj => by rcases (show j = 0 ∨ j = 1 ∨ j = 2 ∨ j = 3 ∨ j = 4 by omega) with rfl | rfl | rfl | rfl | rfl <;> rfl) (Nat.le_of_ble_eq_true rfl) (Nat.le_of_ble_eq_true rfl) dX1_init_37 ?_
  refine zk_cs (cl' := 24) (sl' := 399) rfl rfl ?_
  refine zk_step (fun H locs k => lv_dup C.1.1 C.1.2.1 dX1_init_40 rfl k) ?_
  refine zk_callI (As := []) (rest := [.ref (E.1 + (a + 24)), .int (8 : Int32), .ref (E.1 + (a + 7))]) C hAO (zk_lift (n := 24) (k_X0_init l E) ha rfl) (cwI 0 C.1.2.2.2.2 gX1_init_X0_init rfl rfl rfl (C.1.2.2.2.2 _ (List.mem_of_getElem? (i := 11) rfl)) (C.1.2.2.2.2 _ (List.mem_of_getElem? (i := 28) rfl)) (C.1.2.2.2.2 _ (List.mem_of_getElem? (i := 29) rfl)) rfl hdI_X0_init ⟨Nat.le_of_ble_eq_true rfl, Nat.le_of_ble_eq_true rfl⟩) rfl hl.1 rfl (Nat.le_of_ble_eq_true rfl) dX1_init_41 (Nat.le_of_ble_eq_true rfl) (Nat.le_of_ble_eq_true rfl) ?_
  refine zk_cs (cl' := 25) (sl' := 439) rfl rfl ?_
  refine zk_eq (X' := (.inr (1, [.ref (E.1 + (a + 1)), .ref (E.1 + (a + 7)), .int 0]) :: (zk_vats E (a + 1) ++ (.inl (E.2.2.1 2, 10, .inr (.inr (.inr (.inr (va_up (va_up (va_up (va_up (va_up (va_up (va_up (va_up (fun _ => none) 0 (some (E.1 + (a + 8)))) 1 (some (E.1 + (a + 10)))) 2 (some (E.1 + (a + 12)))) 3 (some (E.1 + (a + 14)))) 4 (some (E.1 + (a + 16)))) 5 (some (E.1 + (a + 18)))) 6 (some (E.1 + (a + 20)))) 7 (some (E.1 + (a + 22)))))))) :: (zk_candle E (a + 8) ++ (zk_candle E (a + 10) ++ (zk_candle E (a + 12) ++ (zk_candle E (a + 14) ++ (zk_candle E (a + 16) ++ (zk_candle E (a + 18) ++ (zk_candle E (a + 20) ++ (zk_candle E (a + 22) ++ (zk_candle E (a + 24) ++ []))))))))))))) (congrArg (pre ++ ·) rfl) ?_
  refine zk_aast C ha 7 2 24 rfl rfl rfl rfl (by decide) dX1_init_44 ?_
  refine zk_eq (X' := (.inr (1, [.ref (E.1 + (a + 1)), .ref (E.1 + (a + 7)), .int 0]) :: (zk_vats E (a + 1) ++ (.inl (E.2.2.1 2, 10, .inr (.inr (.inr (.inr (va_up (va_up (va_up (va_up (va_up (va_up (va_up (va_up (va_up (fun _ => none) 0 (some (E.1 + (a + 8)))) 1 (some (E.1 + (a + 10)))) 2 (some (E.1 + (a + 12)))) 3 (some (E.1 + (a + 14)))) 4 (some (E.1 + (a + 16)))) 5 (some (E.1 + (a + 18)))) 6 (some (E.1 + (a + 20)))) 7 (some (E.1 + (a + 22)))) 8 (some (E.1 + (a + 24)))))))) :: (zk_candle E (a + 8) ++ (zk_candle E (a + 10) ++ (zk_candle E (a + 12) ++ (zk_candle E (a + 14) ++ (zk_candle E (a + 16) ++ (zk_candle E (a + 18) ++ (zk_candle E (a + 20) ++ (zk_candle E (a + 22) ++ (zk_candle E (a + 24) ++ []))))))))))))) (congrArg (pre ++ ·) rfl) ?_
  refine zk_iinc (k9 := 0) (v := 9) (lv' := [(1, .int (9 : Int32)), (0, .ref (E.1 + (a + 0)))]) C dX1_init_45 hl rfl (by decide) (by decide) rfl (fun ls hl => ?_)
  refine zk_step (fun H locs k => lv_goto (tgt := 26) C.1.1 C.1.2.1 dX1_init_48 (by decide) k) ?_
  refine zk_step (fun H locs k => lv_iload_n C.1.1 C.1.2.1 dX1_init_26 rfl (lv_at hl 0 rfl) k) ?_
  refine zk_step (fun H locs k => lv_bipush (v := 10) C.1.1 C.1.2.1 dX1_init_27 (by decide) k) ?_
  refine zk_step (fun H locs k => lv_icmp_ge (tgt := 51) C.1.1 C.1.2.1 dX1_init_29 (by decide) (fun h => absurd h (by decide)) (fun _ => k)) ?_
  refine zk_step (fun H locs k => lv_aload_n C.1.1 C.1.2.1 dX1_init_32 rfl (lv_at hl 1 rfl) k) ?_
  refine zk_get C ha 0 rfl rfl in_X1_init_X1 1 (by decide) (List.mem_of_getElem? (i := 9) rfl) rfl dX1_init_33 ?_
  refine zk_step (fun H locs k => lv_iload_n C.1.1 C.1.2.1 dX1_init_36 rfl (lv_at hl 0 rfl) k) ?_
  refine zk_new (ci := 0) (fs := [.int 0, .int 0, .int 0, .int 0, .null]) (nx := 26) C hb0 ha rfl in_X1_init_X0 tyX0 tyX0_ok (List.mem_of_getElem? (i := 8) rfl) (List.mem_of_getElem? (i := 10) rfl) (List.mem_of_getElem? (i := 11) rfl) rfl (fun j hj => by rcases (show j = 0 ∨ j = 1 ∨ j = 2 ∨ j = 3 ∨ j = 4 by omega) with rfl | rfl | rfl | rfl | rfl <;> rfl) (Nat.le_of_ble_eq_true rfl) (Nat.le_of_ble_eq_true rfl) dX1_init_37 ?_
  refine zk_cs (cl' := 26) (sl' := 444) rfl rfl ?_
  refine zk_step (fun H locs k => lv_dup C.1.1 C.1.2.1 dX1_init_40 rfl k) ?_
  refine zk_callI (As := []) (rest := [.ref (E.1 + (a + 26)), .int (9 : Int32), .ref (E.1 + (a + 7))]) C hAO (zk_lift (n := 26) (k_X0_init l E) ha rfl) (cwI 0 C.1.2.2.2.2 gX1_init_X0_init rfl rfl rfl (C.1.2.2.2.2 _ (List.mem_of_getElem? (i := 11) rfl)) (C.1.2.2.2.2 _ (List.mem_of_getElem? (i := 28) rfl)) (C.1.2.2.2.2 _ (List.mem_of_getElem? (i := 29) rfl)) rfl hdI_X0_init ⟨Nat.le_of_ble_eq_true rfl, Nat.le_of_ble_eq_true rfl⟩) rfl hl.1 rfl (Nat.le_of_ble_eq_true rfl) dX1_init_41 (Nat.le_of_ble_eq_true rfl) (Nat.le_of_ble_eq_true rfl) ?_
  refine zk_cs (cl' := 27) (sl' := 484) rfl rfl ?_
  refine zk_eq (X' := (.inr (1, [.ref (E.1 + (a + 1)), .ref (E.1 + (a + 7)), .int 0]) :: (zk_vats E (a + 1) ++ (.inl (E.2.2.1 2, 10, .inr (.inr (.inr (.inr (va_up (va_up (va_up (va_up (va_up (va_up (va_up (va_up (va_up (fun _ => none) 0 (some (E.1 + (a + 8)))) 1 (some (E.1 + (a + 10)))) 2 (some (E.1 + (a + 12)))) 3 (some (E.1 + (a + 14)))) 4 (some (E.1 + (a + 16)))) 5 (some (E.1 + (a + 18)))) 6 (some (E.1 + (a + 20)))) 7 (some (E.1 + (a + 22)))) 8 (some (E.1 + (a + 24)))))))) :: (zk_candle E (a + 8) ++ (zk_candle E (a + 10) ++ (zk_candle E (a + 12) ++ (zk_candle E (a + 14) ++ (zk_candle E (a + 16) ++ (zk_candle E (a + 18) ++ (zk_candle E (a + 20) ++ (zk_candle E (a + 22) ++ (zk_candle E (a + 24) ++ (zk_candle E (a + 26) ++ [])))))))))))))) (congrArg (pre ++ ·) rfl) ?_
  refine zk_aast C ha 7 2 26 rfl rfl rfl rfl (by decide) dX1_init_44 ?_
  refine zk_eq (X' := (.inr (1, [.ref (E.1 + (a + 1)), .ref (E.1 + (a + 7)), .int 0]) :: (zk_vats E (a + 1) ++ (.inl (E.2.2.1 2, 10, .inr (.inr (.inr (.inr (va_up (va_up (va_up (va_up (va_up (va_up (va_up (va_up (va_up (va_up (fun _ => none) 0 (some (E.1 + (a + 8)))) 1 (some (E.1 + (a + 10)))) 2 (some (E.1 + (a + 12)))) 3 (some (E.1 + (a + 14)))) 4 (some (E.1 + (a + 16)))) 5 (some (E.1 + (a + 18)))) 6 (some (E.1 + (a + 20)))) 7 (some (E.1 + (a + 22)))) 8 (some (E.1 + (a + 24)))) 9 (some (E.1 + (a + 26)))))))) :: (zk_candle E (a + 8) ++ (zk_candle E (a + 10) ++ (zk_candle E (a + 12) ++ (zk_candle E (a + 14) ++ (zk_candle E (a + 16) ++ (zk_candle E (a + 18) ++ (zk_candle E (a + 20) ++ (zk_candle E (a + 22) ++ (zk_candle E (a + 24) ++ (zk_candle E (a + 26) ++ [])))))))))))))) (congrArg (pre ++ ·) rfl) ?_
  refine zk_iinc (k9 := 0) (v := 10) (lv' := [(1, .int (10 : Int32)), (0, .ref (E.1 + (a + 0)))]) C dX1_init_45 hl rfl (by decide) (by decide) rfl (fun ls hl => ?_)
  refine zk_step (fun H locs k => lv_goto (tgt := 26) C.1.1 C.1.2.1 dX1_init_48 (by decide) k) ?_
  refine zk_step (fun H locs k => lv_iload_n C.1.1 C.1.2.1 dX1_init_26 rfl (lv_at hl 0 rfl) k) ?_
  refine zk_step (fun H locs k => lv_bipush (v := 10) C.1.1 C.1.2.1 dX1_init_27 (by decide) k) ?_
  refine zk_step (fun H locs k => lv_icmp_ge (tgt := 51) C.1.1 C.1.2.1 dX1_init_29 (by decide) (fun _ => k) (fun h => absurd (by decide) h)) ?_
  exact zk_ret C hr dX1_init_51 (fun H h => zk_refs (j := 7) (t := 2) (n := 10) (g := fun i => some (E.1 + (a + 7 + 1 + 2 * i))) ha rfl (fun i hi => by rcases (show i = 0 ∨ i = 1 ∨ i = 2 ∨ i = 3 ∨ i = 4 ∨ i = 5 ∨ i = 6 ∨ i = 7 ∨ i = 8 ∨ i = 9 by omega) with rfl | rfl | rfl | rfl | rfl | rfl | rfl | rfl | rfl | rfl <;> rfl) h)
theorem in_X2_init_X0 : ∀ q ∈ u_ws RX0 TX0 5, q ∈ wsX2_init := fun _ h => List.mem_cons_of_mem _ (List.mem_append_left _ (List.mem_append_right _ h))
theorem in_X2_init_X2 : ∀ q ∈ u_ws RX2 TX2 7, q ∈ wsX2_init := fun _ h => List.mem_cons_of_mem _ (List.mem_append_left _ (List.mem_append_left _ (List.mem_append_right _ h)))
theorem in_X2_init_X7 : ∀ q ∈ u_ws RX7 TX7 4, q ∈ wsX2_init := fun _ h => List.mem_cons_of_mem _ (List.mem_append_left _ (List.mem_append_left _ (List.mem_append_left _ (List.mem_append_right _ h))))
set_option maxRecDepth 100000 in
set_option maxHeartbeats 4000000 in
theorem k_X2_init (l : Launch) (E : zz_E) (pre : List va_E) (a : Nat) (ha : pre.length = a) : zk_Met l yX2_init wsX2_init 3 21 346 E (.ref (E.1 + a) :: []) (pre ++ [.inr (2, [.null, .null, .int 0, .int 0, .int 0, .int 0, .int 0])]) (pre ++ zk_rows E a) := by
  refine zk_met (cc := cX2_init) (nL := 2) (ret := none) (by decide) rfl (Nat.le_of_ble_eq_true rfl) (by simp) ?_
  intro p e s m below meth c C hAO hb0 hin hr ls hl
  have C : zz_C E RX2 cX2_init 2 wsX2_init p s m _ meth c := C
  have hl : lv_has ls 2 [(0, .ref (E.1 + a))] := hl
  refine zk_eq (pre' := pre) (X' := [.inr (2, [.null, .null, .int 0, .int 0, .int 0, .int 0, .int 0])]) (List.nil_append _) ?_
  have hl : lv_has ls 2 [(0, .ref (E.1 + (a + 0)))] := hl
  refine zk_step (fun H locs k => lv_aload_n C.1.1 C.1.2.1 dX2_init_0 rfl (lv_at hl 0 rfl) k) ?_
  refine zk_obj C (List.mem_of_getElem? (i := 1) rfl) (List.mem_of_getElem? (i := 2) rfl) (List.mem_of_getElem? (i := 3) rfl) hl.1 dX2_init_1 (Nat.le_of_ble_eq_true rfl) (Nat.le_of_ble_eq_true rfl) ?_
  refine zk_step (fun H locs k => lv_aload_n C.1.1 C.1.2.1 dX2_init_4 rfl (lv_at hl 0 rfl) k) ?_
  refine zk_new (ci := 7) (fs := [.null, .int 0, .int 0, .int 0]) (nx := 1) C hb0 ha rfl in_X2_init_X7 tyX7 tyX7_ok (List.mem_of_getElem? (i := 4) rfl) (List.mem_of_getElem? (i := 5) rfl) (List.mem_of_getElem? (i := 6) rfl) rfl (fun j hj => by rcases (show j = 0 ∨ j = 1 ∨ j = 2 ∨ j = 3 by omega) with rfl | rfl | rfl | rfl <;> rfl) (Nat.le_of_ble_eq_true rfl) (Nat.le_of_ble_eq_true rfl) dX2_init_5 ?_
  refine zk_cs (cl' := 1) (sl' := 4) rfl rfl ?_
  refine zk_step (fun H locs k => lv_dup C.1.1 C.1.2.1 dX2_init_8 rfl k) ?_
  refine zk_callI (As := []) (rest := [.ref (E.1 + (a + 1)), .ref (E.1 + (a + 0))]) C hAO (zk_lift (n := 1) (k_X7_init l E) ha rfl) (cwI 0 C.1.2.2.2.2 gX2_init_X7_init rfl rfl rfl (C.1.2.2.2.2 _ (List.mem_of_getElem? (i := 6) rfl)) (C.1.2.2.2.2 _ (List.mem_of_getElem? (i := 12) rfl)) (C.1.2.2.2.2 _ (List.mem_of_getElem? (i := 13) rfl)) rfl hdI_X7_init ⟨Nat.le_of_ble_eq_true rfl, Nat.le_of_ble_eq_true rfl⟩) rfl hl.1 rfl (Nat.le_of_ble_eq_true rfl) dX2_init_9 (Nat.le_of_ble_eq_true rfl) (Nat.le_of_ble_eq_true rfl) ?_
  refine zk_cs (cl' := 6) (sl' := 24) rfl rfl ?_
  refine zk_eq (X' := (.inr (2, [.null, .null, .int 0, .int 0, .int 0, .int 0, .int 0]) :: (zk_vats E (a + 1) ++ []))) (congrArg (pre ++ ·) rfl) ?_
  refine zk_putF C hin ha 0 (v := .ref (E.1 + (a + 1))) rfl rfl in_X2_init_X2 tyX2 tyX2_ok nmX2 0 (by decide) (List.mem_of_getElem? (i := 7) rfl) rfl rfl rfl rfl (Nat.le_of_ble_eq_true rfl) dX2_init_12 ?_
  refine zk_eq (X' := (.inr (2, [.ref (E.1 + (a + 1)), .null, .int 0, .int 0, .int 0, .int 0, .int 0]) :: (zk_vats E (a + 1) ++ []))) (congrArg (pre ++ ·) rfl) ?_
  refine zk_step (fun H locs k => lv_aload_n C.1.1 C.1.2.1 dX2_init_15 rfl (lv_at hl 0 rfl) k) ?_
  refine zk_step (fun H locs k => lv_bipush (v := 7) C.1.1 C.1.2.1 dX2_init_16 (by decide) k) ?_
  refine zk_anew (t := 2) (nx := 7) (N' := 7) C ha rfl (List.mem_of_getElem? (i := 8) rfl) hAO.1 rfl (by decide) (by decide) (Nat.le_of_ble_eq_true rfl) (Nat.le_of_ble_eq_true rfl) (Nat.le_of_ble_eq_true rfl) dX2_init_18 ?_
  refine zk_cs (cl' := 7) (sl' := 31) rfl rfl ?_
  refine zk_eq (X' := (.inr (2, [.ref (E.1 + (a + 1)), .null, .int 0, .int 0, .int 0, .int 0, .int 0]) :: (zk_vats E (a + 1) ++ (.inl (E.2.2.1 2, 7, .inr (.inr (.inr (.inr (fun _ => none))))) :: [])))) (congrArg (pre ++ ·) rfl) ?_
  refine zk_putF C hin ha 0 (v := .ref (E.1 + (a + 7))) rfl rfl in_X2_init_X2 tyX2 tyX2_ok nmX2 1 (by decide) (List.mem_of_getElem? (i := 9) rfl) rfl rfl rfl rfl (Nat.le_of_ble_eq_true rfl) dX2_init_21 ?_
  refine zk_eq (X' := (.inr (2, [.ref (E.1 + (a + 1)), .ref (E.1 + (a + 7)), .int 0, .int 0, .int 0, .int 0, .int 0]) :: (zk_vats E (a + 1) ++ (.inl (E.2.2.1 2, 7, .inr (.inr (.inr (.inr (fun _ => none))))) :: [])))) (congrArg (pre ++ ·) rfl) ?_
  refine zk_step (fun H locs k => lv_iconst (v := 0) C.1.1 C.1.2.1 dX2_init_24 (by decide) k) ?_
  refine zk_istore_n (lv' := [(1, .int (0 : Int32)), (0, .ref (E.1 + (a + 0)))]) C dX2_init_25 rfl hl (by decide) rfl (fun ls hl => ?_)
  refine zk_step (fun H locs k => lv_iload_n C.1.1 C.1.2.1 dX2_init_26 rfl (lv_at hl 0 rfl) k) ?_
  refine zk_step (fun H locs k => lv_bipush (v := 6) C.1.1 C.1.2.1 dX2_init_27 (by decide) k) ?_
  refine zk_step (fun H locs k => lv_icmp_gt (tgt := 51) C.1.1 C.1.2.1 dX2_init_29 (by decide) (fun h => absurd h (by decide)) (fun _ => k)) ?_
  refine zk_step (fun H locs k => lv_aload_n C.1.1 C.1.2.1 dX2_init_32 rfl (lv_at hl 1 rfl) k) ?_
  refine zk_get C ha 0 rfl rfl in_X2_init_X2 1 (by decide) (List.mem_of_getElem? (i := 9) rfl) rfl dX2_init_33 ?_
  refine zk_step (fun H locs k => lv_iload_n C.1.1 C.1.2.1 dX2_init_36 rfl (lv_at hl 0 rfl) k) ?_
  refine zk_new (ci := 0) (fs := [.int 0, .int 0, .int 0, .int 0, .null]) (nx := 8) C hb0 ha rfl in_X2_init_X0 tyX0 tyX0_ok (List.mem_of_getElem? (i := 8) rfl) (List.mem_of_getElem? (i := 10) rfl) (List.mem_of_getElem? (i := 11) rfl) rfl (fun j hj => by rcases (show j = 0 ∨ j = 1 ∨ j = 2 ∨ j = 3 ∨ j = 4 by omega) with rfl | rfl | rfl | rfl | rfl <;> rfl) (Nat.le_of_ble_eq_true rfl) (Nat.le_of_ble_eq_true rfl) dX2_init_37 ?_
  refine zk_cs (cl' := 8) (sl' := 36) rfl rfl ?_
  refine zk_step (fun H locs k => lv_dup C.1.1 C.1.2.1 dX2_init_40 rfl k) ?_
  refine zk_callI (As := []) (rest := [.ref (E.1 + (a + 8)), .int (0 : Int32), .ref (E.1 + (a + 7))]) C hAO (zk_lift (n := 8) (k_X0_init l E) ha rfl) (cwI 0 C.1.2.2.2.2 gX2_init_X0_init rfl rfl rfl (C.1.2.2.2.2 _ (List.mem_of_getElem? (i := 11) rfl)) (C.1.2.2.2.2 _ (List.mem_of_getElem? (i := 28) rfl)) (C.1.2.2.2.2 _ (List.mem_of_getElem? (i := 29) rfl)) rfl hdI_X0_init ⟨Nat.le_of_ble_eq_true rfl, Nat.le_of_ble_eq_true rfl⟩) rfl hl.1 rfl (Nat.le_of_ble_eq_true rfl) dX2_init_41 (Nat.le_of_ble_eq_true rfl) (Nat.le_of_ble_eq_true rfl) ?_
  refine zk_cs (cl' := 9) (sl' := 76) rfl rfl ?_
  refine zk_eq (X' := (.inr (2, [.ref (E.1 + (a + 1)), .ref (E.1 + (a + 7)), .int 0, .int 0, .int 0, .int 0, .int 0]) :: (zk_vats E (a + 1) ++ (.inl (E.2.2.1 2, 7, .inr (.inr (.inr (.inr (fun _ => none))))) :: (zk_candle E (a + 8) ++ []))))) (congrArg (pre ++ ·) rfl) ?_
  refine zk_aast C ha 7 2 8 rfl rfl rfl rfl (by decide) dX2_init_44 ?_
  refine zk_eq (X' := (.inr (2, [.ref (E.1 + (a + 1)), .ref (E.1 + (a + 7)), .int 0, .int 0, .int 0, .int 0, .int 0]) :: (zk_vats E (a + 1) ++ (.inl (E.2.2.1 2, 7, .inr (.inr (.inr (.inr (va_up (fun _ => none) 0 (some (E.1 + (a + 8)))))))) :: (zk_candle E (a + 8) ++ []))))) (congrArg (pre ++ ·) rfl) ?_
  refine zk_iinc (k9 := 0) (v := 1) (lv' := [(1, .int (1 : Int32)), (0, .ref (E.1 + (a + 0)))]) C dX2_init_45 hl rfl (by decide) (by decide) rfl (fun ls hl => ?_)
  refine zk_step (fun H locs k => lv_goto (tgt := 26) C.1.1 C.1.2.1 dX2_init_48 (by decide) k) ?_
  refine zk_step (fun H locs k => lv_iload_n C.1.1 C.1.2.1 dX2_init_26 rfl (lv_at hl 0 rfl) k) ?_
  refine zk_step (fun H locs k => lv_bipush (v := 6) C.1.1 C.1.2.1 dX2_init_27 (by decide) k) ?_
  refine zk_step (fun H locs k => lv_icmp_gt (tgt := 51) C.1.1 C.1.2.1 dX2_init_29 (by decide) (fun h => absurd h (by decide)) (fun _ => k)) ?_
  refine zk_step (fun H locs k => lv_aload_n C.1.1 C.1.2.1 dX2_init_32 rfl (lv_at hl 1 rfl) k) ?_
  refine zk_get C ha 0 rfl rfl in_X2_init_X2 1 (by decide) (List.mem_of_getElem? (i := 9) rfl) rfl dX2_init_33 ?_
  refine zk_step (fun H locs k => lv_iload_n C.1.1 C.1.2.1 dX2_init_36 rfl (lv_at hl 0 rfl) k) ?_
  refine zk_new (ci := 0) (fs := [.int 0, .int 0, .int 0, .int 0, .null]) (nx := 10) C hb0 ha rfl in_X2_init_X0 tyX0 tyX0_ok (List.mem_of_getElem? (i := 8) rfl) (List.mem_of_getElem? (i := 10) rfl) (List.mem_of_getElem? (i := 11) rfl) rfl (fun j hj => by rcases (show j = 0 ∨ j = 1 ∨ j = 2 ∨ j = 3 ∨ j = 4 by omega) with rfl | rfl | rfl | rfl | rfl <;> rfl) (Nat.le_of_ble_eq_true rfl) (Nat.le_of_ble_eq_true rfl) dX2_init_37 ?_
  refine zk_cs (cl' := 10) (sl' := 81) rfl rfl ?_
  refine zk_step (fun H locs k => lv_dup C.1.1 C.1.2.1 dX2_init_40 rfl k) ?_
  refine zk_callI (As := []) (rest := [.ref (E.1 + (a + 10)), .int (1 : Int32), .ref (E.1 + (a + 7))]) C hAO (zk_lift (n := 10) (k_X0_init l E) ha rfl) (cwI 0 C.1.2.2.2.2 gX2_init_X0_init rfl rfl rfl (C.1.2.2.2.2 _ (List.mem_of_getElem? (i := 11) rfl)) (C.1.2.2.2.2 _ (List.mem_of_getElem? (i := 28) rfl)) (C.1.2.2.2.2 _ (List.mem_of_getElem? (i := 29) rfl)) rfl hdI_X0_init ⟨Nat.le_of_ble_eq_true rfl, Nat.le_of_ble_eq_true rfl⟩) rfl hl.1 rfl (Nat.le_of_ble_eq_true rfl) dX2_init_41 (Nat.le_of_ble_eq_true rfl) (Nat.le_of_ble_eq_true rfl) ?_
  refine zk_cs (cl' := 11) (sl' := 121) rfl rfl ?_
  refine zk_eq (X' := (.inr (2, [.ref (E.1 + (a + 1)), .ref (E.1 + (a + 7)), .int 0, .int 0, .int 0, .int 0, .int 0]) :: (zk_vats E (a + 1) ++ (.inl (E.2.2.1 2, 7, .inr (.inr (.inr (.inr (va_up (fun _ => none) 0 (some (E.1 + (a + 8)))))))) :: (zk_candle E (a + 8) ++ (zk_candle E (a + 10) ++ [])))))) (congrArg (pre ++ ·) rfl) ?_
  refine zk_aast C ha 7 2 10 rfl rfl rfl rfl (by decide) dX2_init_44 ?_
  refine zk_eq (X' := (.inr (2, [.ref (E.1 + (a + 1)), .ref (E.1 + (a + 7)), .int 0, .int 0, .int 0, .int 0, .int 0]) :: (zk_vats E (a + 1) ++ (.inl (E.2.2.1 2, 7, .inr (.inr (.inr (.inr (va_up (va_up (fun _ => none) 0 (some (E.1 + (a + 8)))) 1 (some (E.1 + (a + 10)))))))) :: (zk_candle E (a + 8) ++ (zk_candle E (a + 10) ++ [])))))) (congrArg (pre ++ ·) rfl) ?_
  refine zk_iinc (k9 := 0) (v := 2) (lv' := [(1, .int (2 : Int32)), (0, .ref (E.1 + (a + 0)))]) C dX2_init_45 hl rfl (by decide) (by decide) rfl (fun ls hl => ?_)
  refine zk_step (fun H locs k => lv_goto (tgt := 26) C.1.1 C.1.2.1 dX2_init_48 (by decide) k) ?_
  refine zk_step (fun H locs k => lv_iload_n C.1.1 C.1.2.1 dX2_init_26 rfl (lv_at hl 0 rfl) k) ?_
  refine zk_step (fun H locs k => lv_bipush (v := 6) C.1.1 C.1.2.1 dX2_init_27 (by decide) k) ?_
  refine zk_step (fun H locs k => lv_icmp_gt (tgt := 51) C.1.1 C.1.2.1 dX2_init_29 (by decide) (fun h => absurd h (by decide)) (fun _ => k)) ?_
  refine zk_step (fun H locs k => lv_aload_n C.1.1 C.1.2.1 dX2_init_32 rfl (lv_at hl 1 rfl) k) ?_
  refine zk_get C ha 0 rfl rfl in_X2_init_X2 1 (by decide) (List.mem_of_getElem? (i := 9) rfl) rfl dX2_init_33 ?_
  refine zk_step (fun H locs k => lv_iload_n C.1.1 C.1.2.1 dX2_init_36 rfl (lv_at hl 0 rfl) k) ?_
  refine zk_new (ci := 0) (fs := [.int 0, .int 0, .int 0, .int 0, .null]) (nx := 12) C hb0 ha rfl in_X2_init_X0 tyX0 tyX0_ok (List.mem_of_getElem? (i := 8) rfl) (List.mem_of_getElem? (i := 10) rfl) (List.mem_of_getElem? (i := 11) rfl) rfl (fun j hj => by rcases (show j = 0 ∨ j = 1 ∨ j = 2 ∨ j = 3 ∨ j = 4 by omega) with rfl | rfl | rfl | rfl | rfl <;> rfl) (Nat.le_of_ble_eq_true rfl) (Nat.le_of_ble_eq_true rfl) dX2_init_37 ?_
  refine zk_cs (cl' := 12) (sl' := 126) rfl rfl ?_
  refine zk_step (fun H locs k => lv_dup C.1.1 C.1.2.1 dX2_init_40 rfl k) ?_
  refine zk_callI (As := []) (rest := [.ref (E.1 + (a + 12)), .int (2 : Int32), .ref (E.1 + (a + 7))]) C hAO (zk_lift (n := 12) (k_X0_init l E) ha rfl) (cwI 0 C.1.2.2.2.2 gX2_init_X0_init rfl rfl rfl (C.1.2.2.2.2 _ (List.mem_of_getElem? (i := 11) rfl)) (C.1.2.2.2.2 _ (List.mem_of_getElem? (i := 28) rfl)) (C.1.2.2.2.2 _ (List.mem_of_getElem? (i := 29) rfl)) rfl hdI_X0_init ⟨Nat.le_of_ble_eq_true rfl, Nat.le_of_ble_eq_true rfl⟩) rfl hl.1 rfl (Nat.le_of_ble_eq_true rfl) dX2_init_41 (Nat.le_of_ble_eq_true rfl) (Nat.le_of_ble_eq_true rfl) ?_
  refine zk_cs (cl' := 13) (sl' := 166) rfl rfl ?_
  refine zk_eq (X' := (.inr (2, [.ref (E.1 + (a + 1)), .ref (E.1 + (a + 7)), .int 0, .int 0, .int 0, .int 0, .int 0]) :: (zk_vats E (a + 1) ++ (.inl (E.2.2.1 2, 7, .inr (.inr (.inr (.inr (va_up (va_up (fun _ => none) 0 (some (E.1 + (a + 8)))) 1 (some (E.1 + (a + 10)))))))) :: (zk_candle E (a + 8) ++ (zk_candle E (a + 10) ++ (zk_candle E (a + 12) ++ []))))))) (congrArg (pre ++ ·) rfl) ?_
  refine zk_aast C ha 7 2 12 rfl rfl rfl rfl (by decide) dX2_init_44 ?_
  refine zk_eq (X' := (.inr (2, [.ref (E.1 + (a + 1)), .ref (E.1 + (a + 7)), .int 0, .int 0, .int 0, .int 0, .int 0]) :: (zk_vats E (a + 1) ++ (.inl (E.2.2.1 2, 7, .inr (.inr (.inr (.inr (va_up (va_up (va_up (fun _ => none) 0 (some (E.1 + (a + 8)))) 1 (some (E.1 + (a + 10)))) 2 (some (E.1 + (a + 12)))))))) :: (zk_candle E (a + 8) ++ (zk_candle E (a + 10) ++ (zk_candle E (a + 12) ++ []))))))) (congrArg (pre ++ ·) rfl) ?_
  refine zk_iinc (k9 := 0) (v := 3) (lv' := [(1, .int (3 : Int32)), (0, .ref (E.1 + (a + 0)))]) C dX2_init_45 hl rfl (by decide) (by decide) rfl (fun ls hl => ?_)
  refine zk_step (fun H locs k => lv_goto (tgt := 26) C.1.1 C.1.2.1 dX2_init_48 (by decide) k) ?_
  refine zk_step (fun H locs k => lv_iload_n C.1.1 C.1.2.1 dX2_init_26 rfl (lv_at hl 0 rfl) k) ?_
  refine zk_step (fun H locs k => lv_bipush (v := 6) C.1.1 C.1.2.1 dX2_init_27 (by decide) k) ?_
  refine zk_step (fun H locs k => lv_icmp_gt (tgt := 51) C.1.1 C.1.2.1 dX2_init_29 (by decide) (fun h => absurd h (by decide)) (fun _ => k)) ?_
  refine zk_step (fun H locs k => lv_aload_n C.1.1 C.1.2.1 dX2_init_32 rfl (lv_at hl 1 rfl) k) ?_
  refine zk_get C ha 0 rfl rfl in_X2_init_X2 1 (by decide) (List.mem_of_getElem? (i := 9) rfl) rfl dX2_init_33 ?_
  refine zk_step (fun H locs k => lv_iload_n C.1.1 C.1.2.1 dX2_init_36 rfl (lv_at hl 0 rfl) k) ?_
  refine zk_new (ci := 0) (fs := [.int 0, .int 0, .int 0, .int 0, .null]) (nx := 14) C hb0 ha rfl in_X2_init_X0 tyX0 tyX0_ok (List.mem_of_getElem? (i := 8) rfl) (List.mem_of_getElem? (i := 10) rfl) (List.mem_of_getElem? (i := 11) rfl) rfl (fun j hj => by rcases (show j = 0 ∨ j = 1 ∨ j = 2 ∨ j = 3 ∨ j = 4 by omega) with rfl | rfl | rfl | rfl | rfl <;> rfl) (Nat.le_of_ble_eq_true rfl) (Nat.le_of_ble_eq_true rfl) dX2_init_37 ?_
  refine zk_cs (cl' := 14) (sl' := 171) rfl rfl ?_
  refine zk_step (fun H locs k => lv_dup C.1.1 C.1.2.1 dX2_init_40 rfl k) ?_
  refine zk_callI (As := []) (rest := [.ref (E.1 + (a + 14)), .int (3 : Int32), .ref (E.1 + (a + 7))]) C hAO (zk_lift (n := 14) (k_X0_init l E) ha rfl) (cwI 0 C.1.2.2.2.2 gX2_init_X0_init rfl rfl rfl (C.1.2.2.2.2 _ (List.mem_of_getElem? (i := 11) rfl)) (C.1.2.2.2.2 _ (List.mem_of_getElem? (i := 28) rfl)) (C.1.2.2.2.2 _ (List.mem_of_getElem? (i := 29) rfl)) rfl hdI_X0_init ⟨Nat.le_of_ble_eq_true rfl, Nat.le_of_ble_eq_true rfl⟩) rfl hl.1 rfl (Nat.le_of_ble_eq_true rfl) dX2_init_41 (Nat.le_of_ble_eq_true rfl) (Nat.le_of_ble_eq_true rfl) ?_
  refine zk_cs (cl' := 15) (sl' := 211) rfl rfl ?_
  refine zk_eq (X' := (.inr (2, [.ref (E.1 + (a + 1)), .ref (E.1 + (a + 7)), .int 0, .int 0, .int 0, .int 0, .int 0]) :: (zk_vats E (a + 1) ++ (.inl (E.2.2.1 2, 7, .inr (.inr (.inr (.inr (va_up (va_up (va_up (fun _ => none) 0 (some (E.1 + (a + 8)))) 1 (some (E.1 + (a + 10)))) 2 (some (E.1 + (a + 12)))))))) :: (zk_candle E (a + 8) ++ (zk_candle E (a + 10) ++ (zk_candle E (a + 12) ++ (zk_candle E (a + 14) ++ [])))))))) (congrArg (pre ++ ·) rfl) ?_
  refine zk_aast C ha 7 2 14 rfl rfl rfl rfl (by decide) dX2_init_44 ?_
  refine zk_eq (X' := (.inr (2, [.ref (E.1 + (a + 1)), .ref (E.1 + (a + 7)), .int 0, .int 0, .int 0, .int 0, .int 0]) :: (zk_vats E (a + 1) ++ (.inl (E.2.2.1 2, 7, .inr (.inr (.inr (.inr (va_up (va_up (va_up (va_up (fun _ => none) 0 (some (E.1 + (a + 8)))) 1 (some (E.1 + (a + 10)))) 2 (some (E.1 + (a + 12)))) 3 (some (E.1 + (a + 14)))))))) :: (zk_candle E (a + 8) ++ (zk_candle E (a + 10) ++ (zk_candle E (a + 12) ++ (zk_candle E (a + 14) ++ [])))))))) (congrArg (pre ++ ·) rfl) ?_
  refine zk_iinc (k9 := 0) (v := 4) (lv' := [(1, .int (4 : Int32)), (0, .ref (E.1 + (a + 0)))]) C dX2_init_45 hl rfl (by decide) (by decide) rfl (fun ls hl => ?_)
  refine zk_step (fun H locs k => lv_goto (tgt := 26) C.1.1 C.1.2.1 dX2_init_48 (by decide) k) ?_
  refine zk_step (fun H locs k => lv_iload_n C.1.1 C.1.2.1 dX2_init_26 rfl (lv_at hl 0 rfl) k) ?_
  refine zk_step (fun H locs k => lv_bipush (v := 6) C.1.1 C.1.2.1 dX2_init_27 (by decide) k) ?_
  refine zk_step (fun H locs k => lv_icmp_gt (tgt := 51) C.1.1 C.1.2.1 dX2_init_29 (by decide) (fun h => absurd h (by decide)) (fun _ => k)) ?_
  refine zk_step (fun H locs k => lv_aload_n C.1.1 C.1.2.1 dX2_init_32 rfl (lv_at hl 1 rfl) k) ?_
  refine zk_get C ha 0 rfl rfl in_X2_init_X2 1 (by decide) (List.mem_of_getElem? (i := 9) rfl) rfl dX2_init_33 ?_
  refine zk_step (fun H locs k => lv_iload_n C.1.1 C.1.2.1 dX2_init_36 rfl (lv_at hl 0 rfl) k) ?_
  refine zk_new (ci := 0) (fs := [.int 0, .int 0, .int 0, .int 0, .null]) (nx := 16) C hb0 ha rfl in_X2_init_X0 tyX0 tyX0_ok (List.mem_of_getElem? (i := 8) rfl) (List.mem_of_getElem? (i := 10) rfl) (List.mem_of_getElem? (i := 11) rfl) rfl (fun j hj => by rcases (show j = 0 ∨ j = 1 ∨ j = 2 ∨ j = 3 ∨ j = 4 by omega) with rfl | rfl | rfl | rfl | rfl <;> rfl) (Nat.le_of_ble_eq_true rfl) (Nat.le_of_ble_eq_true rfl) dX2_init_37 ?_
  refine zk_cs (cl' := 16) (sl' := 216) rfl rfl ?_
  refine zk_step (fun H locs k => lv_dup C.1.1 C.1.2.1 dX2_init_40 rfl k) ?_
  refine zk_callI (As := []) (rest := [.ref (E.1 + (a + 16)), .int (4 : Int32), .ref (E.1 + (a + 7))]) C hAO (zk_lift (n := 16) (k_X0_init l E) ha rfl) (cwI 0 C.1.2.2.2.2 gX2_init_X0_init rfl rfl rfl (C.1.2.2.2.2 _ (List.mem_of_getElem? (i := 11) rfl)) (C.1.2.2.2.2 _ (List.mem_of_getElem? (i := 28) rfl)) (C.1.2.2.2.2 _ (List.mem_of_getElem? (i := 29) rfl)) rfl hdI_X0_init ⟨Nat.le_of_ble_eq_true rfl, Nat.le_of_ble_eq_true rfl⟩) rfl hl.1 rfl (Nat.le_of_ble_eq_true rfl) dX2_init_41 (Nat.le_of_ble_eq_true rfl) (Nat.le_of_ble_eq_true rfl) ?_
  refine zk_cs (cl' := 17) (sl' := 256) rfl rfl ?_
  refine zk_eq (X' := (.inr (2, [.ref (E.1 + (a + 1)), .ref (E.1 + (a + 7)), .int 0, .int 0, .int 0, .int 0, .int 0]) :: (zk_vats E (a + 1) ++ (.inl (E.2.2.1 2, 7, .inr (.inr (.inr (.inr (va_up (va_up (va_up (va_up (fun _ => none) 0 (some (E.1 + (a + 8)))) 1 (some (E.1 + (a + 10)))) 2 (some (E.1 + (a + 12)))) 3 (some (E.1 + (a + 14)))))))) :: (zk_candle E (a + 8) ++ (zk_candle E (a + 10) ++ (zk_candle E (a + 12) ++ (zk_candle E (a + 14) ++ (zk_candle E (a + 16) ++ []))))))))) (congrArg (pre ++ ·) rfl) ?_
  refine zk_aast C ha 7 2 16 rfl rfl rfl rfl (by decide) dX2_init_44 ?_
  refine zk_eq (X' := (.inr (2, [.ref (E.1 + (a + 1)), .ref (E.1 + (a + 7)), .int 0, .int 0, .int 0, .int 0, .int 0]) :: (zk_vats E (a + 1) ++ (.inl (E.2.2.1 2, 7, .inr (.inr (.inr (.inr (va_up (va_up (va_up (va_up (va_up (fun _ => none) 0 (some (E.1 + (a + 8)))) 1 (some (E.1 + (a + 10)))) 2 (some (E.1 + (a + 12)))) 3 (some (E.1 + (a + 14)))) 4 (some (E.1 + (a + 16)))))))) :: (zk_candle E (a + 8) ++ (zk_candle E (a + 10) ++ (zk_candle E (a + 12) ++ (zk_candle E (a + 14) ++ (zk_candle E (a + 16) ++ []))))))))) (congrArg (pre ++ ·) rfl) ?_
  refine zk_iinc (k9 := 0) (v := 5) (lv' := [(1, .int (5 : Int32)), (0, .ref (E.1 + (a + 0)))]) C dX2_init_45 hl rfl (by decide) (by decide) rfl (fun ls hl => ?_)
  refine zk_step (fun H locs k => lv_goto (tgt := 26) C.1.1 C.1.2.1 dX2_init_48 (by decide) k) ?_
  refine zk_step (fun H locs k => lv_iload_n C.1.1 C.1.2.1 dX2_init_26 rfl (lv_at hl 0 rfl) k) ?_
  refine zk_step (fun H locs k => lv_bipush (v := 6) C.1.1 C.1.2.1 dX2_init_27 (by decide) k) ?_
  refine zk_step (fun H locs k => lv_icmp_gt (tgt := 51) C.1.1 C.1.2.1 dX2_init_29 (by decide) (fun h => absurd h (by decide)) (fun _ => k)) ?_
  refine zk_step (fun H locs k => lv_aload_n C.1.1 C.1.2.1 dX2_init_32 rfl (lv_at hl 1 rfl) k) ?_
  refine zk_get C ha 0 rfl rfl in_X2_init_X2 1 (by decide) (List.mem_of_getElem? (i := 9) rfl) rfl dX2_init_33 ?_
  refine zk_step (fun H locs k => lv_iload_n C.1.1 C.1.2.1 dX2_init_36 rfl (lv_at hl 0 rfl) k) ?_
  refine zk_new (ci := 0) (fs := [.int 0, .int 0, .int 0, .int 0, .null]) (nx := 18) C hb0 ha rfl in_X2_init_X0 tyX0 tyX0_ok (List.mem_of_getElem? (i := 8) rfl) (List.mem_of_getElem? (i := 10) rfl) (List.mem_of_getElem? (i := 11) rfl) rfl (fun j hj => by rcases (show j = 0 ∨ j = 1 ∨ j = 2 ∨ j = 3 ∨ j = 4 by omega) with rfl | rfl | rfl | rfl | rfl <;> rfl) (Nat.le_of_ble_eq_true rfl) (Nat.le_of_ble_eq_true rfl) dX2_init_37 ?_
  refine zk_cs (cl' := 18) (sl' := 261) rfl rfl ?_
  refine zk_step (fun H locs k => lv_dup C.1.1 C.1.2.1 dX2_init_40 rfl k) ?_
  refine zk_callI (As := []) (rest := [.ref (E.1 + (a + 18)), .int (5 : Int32), .ref (E.1 + (a + 7))]) C hAO (zk_lift (n := 18) (k_X0_init l E) ha rfl) (cwI 0 C.1.2.2.2.2 gX2_init_X0_init rfl rfl rfl (C.1.2.2.2.2 _ (List.mem_of_getElem? (i := 11) rfl)) (C.1.2.2.2.2 _ (List.mem_of_getElem? (i := 28) rfl)) (C.1.2.2.2.2 _ (List.mem_of_getElem? (i := 29) rfl)) rfl hdI_X0_init ⟨Nat.le_of_ble_eq_true rfl, Nat.le_of_ble_eq_true rfl⟩) rfl hl.1 rfl (Nat.le_of_ble_eq_true rfl) dX2_init_41 (Nat.le_of_ble_eq_true rfl) (Nat.le_of_ble_eq_true rfl) ?_
  refine zk_cs (cl' := 19) (sl' := 301) rfl rfl ?_
  refine zk_eq (X' := (.inr (2, [.ref (E.1 + (a + 1)), .ref (E.1 + (a + 7)), .int 0, .int 0, .int 0, .int 0, .int 0]) :: (zk_vats E (a + 1) ++ (.inl (E.2.2.1 2, 7, .inr (.inr (.inr (.inr (va_up (va_up (va_up (va_up (va_up (fun _ => none) 0 (some (E.1 + (a + 8)))) 1 (some (E.1 + (a + 10)))) 2 (some (E.1 + (a + 12)))) 3 (some (E.1 + (a + 14)))) 4 (some (E.1 + (a + 16)))))))) :: (zk_candle E (a + 8) ++ (zk_candle E (a + 10) ++ (zk_candle E (a + 12) ++ (zk_candle E (a + 14) ++ (zk_candle E (a + 16) ++ (zk_candle E (a + 18) ++ [])))))))))) (congrArg (pre ++ ·) rfl) ?_
  refine zk_aast C ha 7 2 18 rfl rfl rfl rfl (by decide) dX2_init_44 ?_
  refine zk_eq (X' := (.inr (2, [.ref (E.1 + (a + 1)), .ref (E.1 + (a + 7)), .int 0, .int 0, .int 0, .int 0, .int 0]) :: (zk_vats E (a + 1) ++ (.inl (E.2.2.1 2, 7, .inr (.inr (.inr (.inr (va_up (va_up (va_up (va_up (va_up (va_up (fun _ => none) 0 (some (E.1 + (a + 8)))) 1 (some (E.1 + (a + 10)))) 2 (some (E.1 + (a + 12)))) 3 (some (E.1 + (a + 14)))) 4 (some (E.1 + (a + 16)))) 5 (some (E.1 + (a + 18)))))))) :: (zk_candle E (a + 8) ++ (zk_candle E (a + 10) ++ (zk_candle E (a + 12) ++ (zk_candle E (a + 14) ++ (zk_candle E (a + 16) ++ (zk_candle E (a + 18) ++ [])))))))))) (congrArg (pre ++ ·) rfl) ?_
  refine zk_iinc (k9 := 0) (v := 6) (lv' := [(1, .int (6 : Int32)), (0, .ref (E.1 + (a + 0)))]) C dX2_init_45 hl rfl (by decide) (by decide) rfl (fun ls hl => ?_)
  refine zk_step (fun H locs k => lv_goto (tgt := 26) C.1.1 C.1.2.1 dX2_init_48 (by decide) k) ?_
  refine zk_step (fun H locs k => lv_iload_n C.1.1 C.1.2.1 dX2_init_26 rfl (lv_at hl 0 rfl) k) ?_
  refine zk_step (fun H locs k => lv_bipush (v := 6) C.1.1 C.1.2.1 dX2_init_27 (by decide) k) ?_
  refine zk_step (fun H locs k => lv_icmp_gt (tgt := 51) C.1.1 C.1.2.1 dX2_init_29 (by decide) (fun h => absurd h (by decide)) (fun _ => k)) ?_
  refine zk_step (fun H locs k => lv_aload_n C.1.1 C.1.2.1 dX2_init_32 rfl (lv_at hl 1 rfl) k) ?_
  refine zk_get C ha 0 rfl rfl in_X2_init_X2 1 (by decide) (List.mem_of_getElem? (i := 9) rfl) rfl dX2_init_33 ?_
  refine zk_step (fun H locs k => lv_iload_n C.1.1 C.1.2.1 dX2_init_36 rfl (lv_at hl 0 rfl) k) ?_
  refine zk_new (ci := 0) (fs := [.int 0, .int 0, .int 0, .int 0, .null]) (nx := 20) C hb0 ha rfl in_X2_init_X0 tyX0 tyX0_ok (List.mem_of_getElem? (i := 8) rfl) (List.mem_of_getElem? (i := 10) rfl) (List.mem_of_getElem? (i := 11) rfl) rfl (fun j hj => by rcases (show j = 0 ∨ j = 1 ∨ j = 2 ∨ j = 3 ∨ j = 4 by omega) with rfl | rfl | rfl | rfl | rfl <;> rfl) (Nat.le_of_ble_eq_true rfl) (Nat.le_of_ble_eq_true rfl) dX2_init_37 ?_
  refine zk_cs (cl' := 20) (sl' := 306) rfl rfl ?_
  refine zk_step (fun H locs k => lv_dup C.1.1 C.1.2.1 dX2_init_40 rfl k) ?_
  refine zk_callI (As := []) (rest := [.ref (E.1 + (a + 20)), .int (6 : Int32), .ref (E.1 + (a + 7))]) C hAO (zk_lift (n := 20) (k_X0_init l E) ha rfl) (cwI 0 C.1.2.2.2.2 gX2_init_X0_init rfl rfl rfl (C.1.2.2.2.2 _ (List.mem_of_getElem? (i := 11) rfl)) (C.1.2.2.2.2 _ (List.mem_of_getElem? (i := 28) rfl)) (C.1.2.2.2.2 _ (List.mem_of_getElem? (i := 29) rfl)) rfl hdI_X0_init ⟨Nat.le_of_ble_eq_true rfl, Nat.le_of_ble_eq_true rfl⟩) rfl hl.1 rfl (Nat.le_of_ble_eq_true rfl) dX2_init_41 (Nat.le_of_ble_eq_true rfl) (Nat.le_of_ble_eq_true rfl) ?_
  refine zk_cs (cl' := 21) (sl' := 346) rfl rfl ?_
  refine zk_eq (X' := (.inr (2, [.ref (E.1 + (a + 1)), .ref (E.1 + (a + 7)), .int 0, .int 0, .int 0, .int 0, .int 0]) :: (zk_vats E (a + 1) ++ (.inl (E.2.2.1 2, 7, .inr (.inr (.inr (.inr (va_up (va_up (va_up (va_up (va_up (va_up (fun _ => none) 0 (some (E.1 + (a + 8)))) 1 (some (E.1 + (a + 10)))) 2 (some (E.1 + (a + 12)))) 3 (some (E.1 + (a + 14)))) 4 (some (E.1 + (a + 16)))) 5 (some (E.1 + (a + 18)))))))) :: (zk_candle E (a + 8) ++ (zk_candle E (a + 10) ++ (zk_candle E (a + 12) ++ (zk_candle E (a + 14) ++ (zk_candle E (a + 16) ++ (zk_candle E (a + 18) ++ (zk_candle E (a + 20) ++ []))))))))))) (congrArg (pre ++ ·) rfl) ?_
  refine zk_aast C ha 7 2 20 rfl rfl rfl rfl (by decide) dX2_init_44 ?_
  refine zk_eq (X' := (.inr (2, [.ref (E.1 + (a + 1)), .ref (E.1 + (a + 7)), .int 0, .int 0, .int 0, .int 0, .int 0]) :: (zk_vats E (a + 1) ++ (.inl (E.2.2.1 2, 7, .inr (.inr (.inr (.inr (va_up (va_up (va_up (va_up (va_up (va_up (va_up (fun _ => none) 0 (some (E.1 + (a + 8)))) 1 (some (E.1 + (a + 10)))) 2 (some (E.1 + (a + 12)))) 3 (some (E.1 + (a + 14)))) 4 (some (E.1 + (a + 16)))) 5 (some (E.1 + (a + 18)))) 6 (some (E.1 + (a + 20)))))))) :: (zk_candle E (a + 8) ++ (zk_candle E (a + 10) ++ (zk_candle E (a + 12) ++ (zk_candle E (a + 14) ++ (zk_candle E (a + 16) ++ (zk_candle E (a + 18) ++ (zk_candle E (a + 20) ++ []))))))))))) (congrArg (pre ++ ·) rfl) ?_
  refine zk_iinc (k9 := 0) (v := 7) (lv' := [(1, .int (7 : Int32)), (0, .ref (E.1 + (a + 0)))]) C dX2_init_45 hl rfl (by decide) (by decide) rfl (fun ls hl => ?_)
  refine zk_step (fun H locs k => lv_goto (tgt := 26) C.1.1 C.1.2.1 dX2_init_48 (by decide) k) ?_
  refine zk_step (fun H locs k => lv_iload_n C.1.1 C.1.2.1 dX2_init_26 rfl (lv_at hl 0 rfl) k) ?_
  refine zk_step (fun H locs k => lv_bipush (v := 6) C.1.1 C.1.2.1 dX2_init_27 (by decide) k) ?_
  refine zk_step (fun H locs k => lv_icmp_gt (tgt := 51) C.1.1 C.1.2.1 dX2_init_29 (by decide) (fun _ => k) (fun h => absurd (by decide) h)) ?_
  exact zk_ret C hr dX2_init_51 (fun H h => zk_refs (j := 7) (t := 2) (n := 7) (g := fun i => some (E.1 + (a + 7 + 1 + 2 * i))) ha rfl (fun i hi => by rcases (show i = 0 ∨ i = 1 ∨ i = 2 ∨ i = 3 ∨ i = 4 ∨ i = 5 ∨ i = 6 by omega) with rfl | rfl | rfl | rfl | rfl | rfl | rfl <;> rfl) h)
theorem in_X5_init_X1 : ∀ q ∈ u_ws RX1 TX1 3, q ∈ wsX5_init := fun _ h => List.mem_cons_of_mem _ (List.mem_append_left _ (List.mem_append_left _ (List.mem_append_left _ (List.mem_append_right _ h))))
theorem in_X5_init_X5 : ∀ q ∈ u_ws RX5 TX5 6, q ∈ wsX5_init := fun _ h => List.mem_cons_of_mem _ (List.mem_append_left _ (List.mem_append_left _ (List.mem_append_left _ (List.mem_append_left _ (List.mem_append_right _ h)))))
theorem hdI_X1_init : yX1_init.cls ≠ "java/lang/invoke/MethodHandle" ∧ yX1_init.cls ≠ "java/lang/invoke/VarHandle" ∧ (parseMethodDescriptor yX1_init.desc).map (fun d => d.parameters.length) = some 0 := by decide +kernel
set_option maxRecDepth 100000 in
set_option maxHeartbeats 4000000 in
theorem k_X5_init (l : Launch) (E : zz_E) (pre : List va_E) (a : Nat) (ha : pre.length = a) : zk_Met l yX5_init wsX5_init 4 28 487 E (.ref (E.1 + a) :: [.ref (E.1 + 88)]) (pre ++ [.inr (5, [.null, .null, .int 0, .int 0, .int 0, .int 0])]) (pre ++ zk_text E a) := by
  refine zk_met (cc := cX5_init) (nL := 2) (ret := none) (by decide) rfl (Nat.le_of_ble_eq_true rfl) (by simp) ?_
  intro p e s m below meth c C hAO hb0 hin hr ls hl
  have C : zz_C E RX5 cX5_init 2 wsX5_init p s m _ meth c := C
  have hl : lv_has ls 2 [(0, .ref (E.1 + a)), (1, .ref (E.1 + 88))] := hl
  refine zk_eq (pre' := pre) (X' := [.inr (5, [.null, .null, .int 0, .int 0, .int 0, .int 0])]) (List.nil_append _) ?_
  have hl : lv_has ls 2 [(0, .ref (E.1 + (a + 0))), (1, .ref (E.1 + 88))] := hl
  refine zk_step (fun H locs k => lv_aload_n C.1.1 C.1.2.1 dX5_init_0 rfl (lv_at hl 0 rfl) k) ?_
  refine zk_obj C (List.mem_of_getElem? (i := 1) rfl) (List.mem_of_getElem? (i := 2) rfl) (List.mem_of_getElem? (i := 3) rfl) hl.1 dX5_init_1 (Nat.le_of_ble_eq_true rfl) (Nat.le_of_ble_eq_true rfl) ?_
  refine zk_step (fun H locs k => lv_aload_n C.1.1 C.1.2.1 dX5_init_4 rfl (lv_at hl 0 rfl) k) ?_
  refine zk_step (fun H locs k => lv_aload_n C.1.1 C.1.2.1 dX5_init_5 rfl (lv_at hl 1 rfl) k) ?_
  refine zk_putF C hin ha 0 (v := .ref (E.1 + 88)) rfl rfl in_X5_init_X5 tyX5 tyX5_ok nmX5 0 (by decide) (List.mem_of_getElem? (i := 4) rfl) rfl rfl rfl rfl (Nat.le_of_ble_eq_true rfl) dX5_init_6 ?_
  refine zk_eq (X' := (.inr (5, [.ref (E.1 + 88), .null, .int 0, .int 0, .int 0, .int 0]) :: [])) (congrArg (pre ++ ·) rfl) ?_
  refine zk_step (fun H locs k => lv_aload_n C.1.1 C.1.2.1 dX5_init_9 rfl (lv_at hl 0 rfl) k) ?_
  refine zk_new (ci := 1) (fs := [.null, .null, .int 0]) (nx := 1) C hb0 ha rfl in_X5_init_X1 tyX1 tyX1_ok (List.mem_of_getElem? (i := 5) rfl) (List.mem_of_getElem? (i := 6) rfl) (List.mem_of_getElem? (i := 7) rfl) rfl (fun j hj => by rcases (show j = 0 ∨ j = 1 ∨ j = 2 by omega) with rfl | rfl | rfl <;> rfl) (Nat.le_of_ble_eq_true rfl) (Nat.le_of_ble_eq_true rfl) dX5_init_10 ?_
  refine zk_cs (cl' := 1) (sl' := 3) rfl rfl ?_
  refine zk_step (fun H locs k => lv_dup C.1.1 C.1.2.1 dX5_init_13 rfl k) ?_
  refine zk_callI (As := []) (rest := [.ref (E.1 + (a + 1)), .ref (E.1 + (a + 0))]) C hAO (zk_lift (n := 1) (k_X1_init l E) ha rfl) (cwI 0 C.1.2.2.2.2 gX5_init_X1_init rfl rfl rfl (C.1.2.2.2.2 _ (List.mem_of_getElem? (i := 7) rfl)) (C.1.2.2.2.2 _ (List.mem_of_getElem? (i := 9) rfl)) (C.1.2.2.2.2 _ (List.mem_of_getElem? (i := 10) rfl)) rfl hdI_X1_init ⟨Nat.le_of_ble_eq_true rfl, Nat.le_of_ble_eq_true rfl⟩) rfl hl.1 rfl (Nat.le_of_ble_eq_true rfl) dX5_init_14 (Nat.le_of_ble_eq_true rfl) (Nat.le_of_ble_eq_true rfl) ?_
  refine zk_cs (cl' := 28) (sl' := 487) rfl rfl ?_
  refine zk_eq (X' := (.inr (5, [.ref (E.1 + 88), .null, .int 0, .int 0, .int 0, .int 0]) :: (zk_chand E (a + 1) ++ []))) (congrArg (pre ++ ·) rfl) ?_
  refine zk_putF C hin ha 0 (v := .ref (E.1 + (a + 1))) rfl rfl in_X5_init_X5 tyX5 tyX5_ok nmX5 1 (by decide) (List.mem_of_getElem? (i := 8) rfl) rfl rfl rfl rfl (Nat.le_of_ble_eq_true rfl) dX5_init_17 ?_
  refine zk_eq (X' := (.inr (5, [.ref (E.1 + 88), .ref (E.1 + (a + 1)), .int 0, .int 0, .int 0, .int 0]) :: (zk_chand E (a + 1) ++ []))) (congrArg (pre ++ ·) rfl) ?_
  exact zk_ret C hr dX5_init_20 (fun H h => h)
