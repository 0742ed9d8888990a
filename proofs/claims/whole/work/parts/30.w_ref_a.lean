-- X9_in ('X9', 'in', '(III)Z')
def f_X9_in (x0 : Int32) (x1 : Int32) (x2 : Int32) (M : zz_M) : Option (Int32 × zz_M) := (if x0 < x1 then some ((0 : Int32), M) else (if x2 < x0 then some ((0 : Int32), M) else some ((1 : Int32), M)))
set_option maxRecDepth 100000 in
set_option maxHeartbeats 4000000 in
theorem m_X9_in (l : Launch) (E : zz_E) (x0 : Int32) (x1 : Int32) (x2 : Int32)  (M : zz_M) : zz_Met (zz_pi E) l yX9_in wsX9_in 1 E [.int x0, .int x1, .int x2] M (f_X9_in x0 x1 x2 M) := by
  refine zz_met (cc := cX9_in) (nL := 3) (ret := (some .boolean)) (by decide) rfl (Nat.le_of_ble_eq_true rfl) ?_
  intro p e s m below meth c C hr ls hl
  have C : zz_C E RX9 cX9_in 3 wsX9_in p s m [.int x0, .int x1, .int x2].toArray meth c := C
  have hl : lv_has ls 3 [(0, .int x0), (1, .int x1), (2, .int x2)] := hl
  unfold f_X9_in
  refine zz_iload_n C dX9_in_0 rfl (lv_at hl 0 rfl) ?_
  refine zz_iload_n C dX9_in_1 rfl (lv_at hl 1 rfl) ?_
  refine zz_icmp_lt (tgt := 14) C dX9_in_2 (by decide) (fun c_1 => ?_) (fun c_1 => ?_)
  · refine zz_iconst (v := 0) C dX9_in_14 (by decide) ?_
    exact zz_zretl C (v := (0 : Int32)) rfl hr dX9_in_15
  · refine zz_iload_n C dX9_in_5 rfl (lv_at hl 0 rfl) ?_
    refine zz_iload_n C dX9_in_6 rfl (lv_at hl 2 rfl) ?_
    refine zz_icmp_gt (tgt := 14) C dX9_in_7 (by decide) (fun c_2 => ?_) (fun c_2 => ?_)
    · refine zz_iconst (v := 0) C dX9_in_14 (by decide) ?_
      exact zz_zretl C (v := (0 : Int32)) rfl hr dX9_in_15
    · refine zz_iconst (v := 1) C dX9_in_10 (by decide) ?_
      refine zz_goto (tgt := 15) C dX9_in_11 (by decide) ?_
      exact zz_zretl C (v := (1 : Int32)) rfl hr dX9_in_15
-- X9_finds ('X9', 'finds', '(I)I')
theorem in_X9_finds_X9 : ∀ w ∈ u_ws RX9 TX9 20, w ∈ wsX9_finds := fun _ h => List.mem_cons_of_mem _ (List.mem_append_right _ h)
def f_X9_finds (a0 : Nat) (x1 : Int32) (M : zz_M) : Option (Int32 × zz_M) := (if zz_in ((-1000000001 : Int32) - x1) 7 = true then (if zz_in ((-1000000001 : Int32) - x1) 7 = true then zz_w (zz_si M 131 (zz_n ((-1000000001 : Int32) - x1)) ((zz_i M 131 (zz_n ((-1000000001 : Int32) - x1))) + (1 : Int32))) (fun M_1 => some (x1, M_1)) else none) else none)
set_option maxRecDepth 100000 in
set_option maxHeartbeats 4000000 in
theorem m_X9_finds (l : Launch) (E : zz_E) (a0 : Nat) (x1 : Int32) (h0 : zz_sh a0 = 9) (M : zz_M) : zz_Met (zz_pi E) l yX9_finds wsX9_finds 1 E [.ref (E.1 + a0), .int x1] M (f_X9_finds a0 x1 M) := by
  refine zz_met (cc := cX9_finds) (nL := 2) (ret := (some .int)) (by decide) rfl (Nat.le_of_ble_eq_true rfl) ?_
  intro p e s m below meth c C hr ls hl
  have C : zz_C E RX9 cX9_finds 2 wsX9_finds p s m [.ref (E.1 + a0), .int x1].toArray meth c := C
  have hl : lv_has ls 2 [(0, .ref (E.1 + a0)), (1, .int x1)] := hl
  unfold f_X9_finds
  refine zz_aload_n C dX9_finds_0 rfl (lv_at hl 0 rfl) ?_
  refine zz_get C (zz_lt h0 (by decide)) (zz_c9 h0) rfl in_X9_finds_X9 1 (by decide) (List.mem_of_getElem? (i := 1) rfl) rfl dX9_finds_1 ?_
  refine zz_ldc (v := -1000000001) C (List.mem_of_getElem? (i := 2) rfl) dX9_finds_4 ?_
  refine zz_iload_n C dX9_finds_6 rfl (lv_at hl 1 rfl) ?_
  refine zz_isub C dX9_finds_7 ?_
  refine zz_dup2_11 C dX9_finds_8 rfl rfl ?_
  refine zz_iald C (zz_lt (zz_s9_1 h0) (by decide)) (zz_c12 (zz_s9_1 h0)) dX9_finds_9 ?_
  refine zz_iconst (v := 1) C dX9_finds_10 (by decide) ?_
  refine zz_iadd C dX9_finds_11 ?_
  refine zz_iast C (zz_lt (zz_s9_1 h0) (by decide)) (fun _ => zz_c12 (zz_s9_1 h0)) dX9_finds_12 (fun M_1 => ?_)
  refine zz_iload_n C dX9_finds_13 rfl (lv_at hl 1 rfl) ?_
  exact zz_iret C hr dX9_finds_14
-- X9_isVat ('X9', 'isVat', '(I)Z')
theorem hdS_X9_in : yX9_in.cls ≠ "java/lang/invoke/MethodHandle" ∧ yX9_in.cls ≠ "java/lang/invoke/VarHandle" ∧ (parseMethodDescriptor yX9_in.desc).map (fun d => d.parameters.length) = some 3 := by decide +kernel
def f_X9_isVat (x0 : Int32) (M : zz_M) : Option (Int32 × zz_M) := zz_bd (f_X9_in x0 (0 : Int32) (3 : Int32) M) (fun r_1 M_2 => (if zz_bit r_1 = true then some (r_1, M_2) else none))
set_option maxRecDepth 100000 in
set_option maxHeartbeats 4000000 in
theorem m_X9_isVat (l : Launch) (E : zz_E) (x0 : Int32)  (M : zz_M) : zz_Met (zz_pi E) l yX9_isVat wsX9_isVat 2 E [.int x0] M (f_X9_isVat x0 M) := by
  refine zz_met (cc := cX9_isVat) (nL := 1) (ret := (some .boolean)) (by decide) rfl (Nat.le_of_ble_eq_true rfl) ?_
  intro p e s m below meth c C hr ls hl
  have C : zz_C E RX9 cX9_isVat 1 wsX9_isVat p s m [.int x0].toArray meth c := C
  have hl : lv_has ls 1 [(0, .int x0)] := hl
  unfold f_X9_isVat
  refine zz_iload_n C dX9_isVat_0 rfl (lv_at hl 0 rfl) ?_
  refine zz_iconst (v := 0) C dX9_isVat_1 (by decide) ?_
  refine zz_iconst (v := 3) C dX9_isVat_2 (by decide) ?_
  refine zz_callSi (As := [.int x0, .int (0 : Int32), .int (3 : Int32)]) (rest := []) C (m_X9_in l E x0 (0 : Int32) (3 : Int32)  M) (va_cwS 3 C.1.2.2.2.2 gX9_isVat_X9_in rfl rfl rfl hdS_X9_in ⟨Nat.le_of_ble_eq_true rfl, Nat.le_of_ble_eq_true rfl⟩) rfl hl.1 rfl (Nat.le_of_ble_eq_true rfl) dX9_isVat_3 (fun r_1 M_2 => ?_)
  exact zz_zret C hr dX9_isVat_6
-- X9_isCandle ('X9', 'isCandle', '(I)Z')
theorem in_X9_isCandle_X9 : ∀ w ∈ u_ws RX9 TX9 20, w ∈ wsX9_isCandle := fun _ h => List.mem_cons_of_mem _ (List.mem_append_right _ h)
def f_X9_isCandle (a0 : Nat) (x1 : Int32) (M : zz_M) : Option (Int32 × zz_M) := (if zz_in (0 : Int32) 440 = true then zz_bd (f_X9_in x1 (0 : Int32) ((zz_i M 130 (zz_n (0 : Int32))) - (1 : Int32)) M) (fun r_1 M_2 => (if zz_bit r_1 = true then some (r_1, M_2) else none)) else none)
set_option maxRecDepth 100000 in
set_option maxHeartbeats 4000000 in
theorem m_X9_isCandle (l : Launch) (E : zz_E) (a0 : Nat) (x1 : Int32) (h0 : zz_sh a0 = 9) (M : zz_M) : zz_Met (zz_pi E) l yX9_isCandle wsX9_isCandle 2 E [.ref (E.1 + a0), .int x1] M (f_X9_isCandle a0 x1 M) := by
  refine zz_met (cc := cX9_isCandle) (nL := 2) (ret := (some .boolean)) (by decide) rfl (Nat.le_of_ble_eq_true rfl) ?_
  intro p e s m below meth c C hr ls hl
  have C : zz_C E RX9 cX9_isCandle 2 wsX9_isCandle p s m [.ref (E.1 + a0), .int x1].toArray meth c := C
  have hl : lv_has ls 2 [(0, .ref (E.1 + a0)), (1, .int x1)] := hl
  unfold f_X9_isCandle
  refine zz_iload_n C dX9_isCandle_0 rfl (lv_at hl 1 rfl) ?_
  refine zz_iconst (v := 0) C dX9_isCandle_1 (by decide) ?_
  refine zz_aload_n C dX9_isCandle_2 rfl (lv_at hl 0 rfl) ?_
  refine zz_get C (zz_lt h0 (by decide)) (zz_c9 h0) rfl in_X9_isCandle_X9 0 (by decide) (List.mem_of_getElem? (i := 1) rfl) rfl dX9_isCandle_3 ?_
  refine zz_iconst (v := 0) C dX9_isCandle_6 (by decide) ?_
  refine zz_iald C (zz_lt (zz_s9_0 h0) (by decide)) (zz_c13 (zz_s9_0 h0)) dX9_isCandle_7 ?_
  refine zz_iconst (v := 1) C dX9_isCandle_8 (by decide) ?_
  refine zz_isub C dX9_isCandle_9 ?_
  refine zz_callSi (As := [.int x1, .int (0 : Int32), .int ((zz_i M 130 (zz_n (0 : Int32))) - (1 : Int32))]) (rest := []) C (m_X9_in l E x1 (0 : Int32) ((zz_i M 130 (zz_n (0 : Int32))) - (1 : Int32))  M) (va_cwS 3 C.1.2.2.2.2 gX9_isCandle_X9_in rfl rfl rfl hdS_X9_in ⟨Nat.le_of_ble_eq_true rfl, Nat.le_of_ble_eq_true rfl⟩) rfl hl.1 rfl (Nat.le_of_ble_eq_true rfl) dX9_isCandle_10 (fun r_1 M_2 => ?_)
  exact zz_zret C hr dX9_isCandle_13
-- X9_isKind ('X9', 'isKind', '(I)Z')
def f_X9_isKind (x0 : Int32) (M : zz_M) : Option (Int32 × zz_M) := zz_bd (f_X9_in x0 (0 : Int32) (5 : Int32) M) (fun r_1 M_2 => (if zz_bit r_1 = true then some (r_1, M_2) else none))
set_option maxRecDepth 100000 in
set_option maxHeartbeats 4000000 in
theorem m_X9_isKind (l : Launch) (E : zz_E) (x0 : Int32)  (M : zz_M) : zz_Met (zz_pi E) l yX9_isKind wsX9_isKind 2 E [.int x0] M (f_X9_isKind x0 M) := by
  refine zz_met (cc := cX9_isKind) (nL := 1) (ret := (some .boolean)) (by decide) rfl (Nat.le_of_ble_eq_true rfl) ?_
  intro p e s m below meth c C hr ls hl
  have C : zz_C E RX9 cX9_isKind 1 wsX9_isKind p s m [.int x0].toArray meth c := C
  have hl : lv_has ls 1 [(0, .int x0)] := hl
  unfold f_X9_isKind
  refine zz_iload_n C dX9_isKind_0 rfl (lv_at hl 0 rfl) ?_
  refine zz_iconst (v := 0) C dX9_isKind_1 (by decide) ?_
  refine zz_iconst (v := 5) C dX9_isKind_2 (by decide) ?_
  refine zz_callSi (As := [.int x0, .int (0 : Int32), .int (5 : Int32)]) (rest := []) C (m_X9_in l E x0 (0 : Int32) (5 : Int32)  M) (va_cwS 3 C.1.2.2.2.2 gX9_isKind_X9_in rfl rfl rfl hdS_X9_in ⟨Nat.le_of_ble_eq_true rfl, Nat.le_of_ble_eq_true rfl⟩) rfl hl.1 rfl (Nat.le_of_ble_eq_true rfl) dX9_isKind_3 (fun r_1 M_2 => ?_)
  exact zz_zret C hr dX9_isKind_6
-- X9_its ('X9', 'its', '(II)I')
theorem in_X9_its_X9 : ∀ w ∈ u_ws RX9 TX9 20, w ∈ wsX9_its := fun _ h => List.mem_cons_of_mem _ (List.mem_append_right _ h)
def f_X9_its (a0 : Nat) (x1 : Int32) (x2 : Int32) (M : zz_M) : Option (Int32 × zz_M) := (if zz_in (((4 : Int32) + ((4 : Int32) * x1)) + x2) 440 = true then some ((zz_i M 130 (zz_n (((4 : Int32) + ((4 : Int32) * x1)) + x2))), M) else none)
set_option maxRecDepth 100000 in
set_option maxHeartbeats 4000000 in
theorem m_X9_its (l : Launch) (E : zz_E) (a0 : Nat) (x1 : Int32) (x2 : Int32) (h0 : zz_sh a0 = 9) (M : zz_M) : zz_Met (zz_pi E) l yX9_its wsX9_its 1 E [.ref (E.1 + a0), .int x1, .int x2] M (f_X9_its a0 x1 x2 M) := by
  refine zz_met (cc := cX9_its) (nL := 3) (ret := (some .int)) (by decide) rfl (Nat.le_of_ble_eq_true rfl) ?_
  intro p e s m below meth c C hr ls hl
  have C : zz_C E RX9 cX9_its 3 wsX9_its p s m [.ref (E.1 + a0), .int x1, .int x2].toArray meth c := C
  have hl : lv_has ls 3 [(0, .ref (E.1 + a0)), (1, .int x1), (2, .int x2)] := hl
  unfold f_X9_its
  refine zz_aload_n C dX9_its_0 rfl (lv_at hl 0 rfl) ?_
  refine zz_get C (zz_lt h0 (by decide)) (zz_c9 h0) rfl in_X9_its_X9 0 (by decide) (List.mem_of_getElem? (i := 1) rfl) rfl dX9_its_1 ?_
  refine zz_iconst (v := 4) C dX9_its_4 (by decide) ?_
  refine zz_iconst (v := 4) C dX9_its_5 (by decide) ?_
  refine zz_iload_n C dX9_its_6 rfl (lv_at hl 1 rfl) ?_
  refine zz_imul C dX9_its_7 ?_
  refine zz_iadd C dX9_its_8 ?_
  refine zz_iload_n C dX9_its_9 rfl (lv_at hl 2 rfl) ?_
  refine zz_iadd C dX9_its_10 ?_
  refine zz_iald C (zz_lt (zz_s9_0 h0) (by decide)) (zz_c13 (zz_s9_0 h0)) dX9_its_11 ?_
  exact zz_iret C hr dX9_its_12
-- X9_setVat ('X9', 'setVat', '(III)V')
theorem in_X9_setVat_X9 : ∀ w ∈ u_ws RX9 TX9 20, w ∈ wsX9_setVat := fun _ h => List.mem_cons_of_mem _ (List.mem_append_right _ h)
def f_X9_setVat (a0 : Nat) (x1 : Int32) (x2 : Int32) (x3 : Int32) (M : zz_M) : Option (Unit × zz_M) := (if zz_in (((4 : Int32) + ((4 : Int32) * x1)) + x2) 440 = true then zz_w (zz_si M 130 (zz_n (((4 : Int32) + ((4 : Int32) * x1)) + x2)) x3) (fun M_1 => some ((), M_1)) else none)
set_option maxRecDepth 100000 in
set_option maxHeartbeats 4000000 in
theorem m_X9_setVat (l : Launch) (E : zz_E) (a0 : Nat) (x1 : Int32) (x2 : Int32) (x3 : Int32) (h0 : zz_sh a0 = 9) (M : zz_M) : zz_Met (zz_pv E) l yX9_setVat wsX9_setVat 1 E [.ref (E.1 + a0), .int x1, .int x2, .int x3] M (f_X9_setVat a0 x1 x2 x3 M) := by
  refine zz_met (cc := cX9_setVat) (nL := 4) (ret := none) (by decide) rfl (Nat.le_of_ble_eq_true rfl) ?_
  intro p e s m below meth c C hr ls hl
  have C : zz_C E RX9 cX9_setVat 4 wsX9_setVat p s m [.ref (E.1 + a0), .int x1, .int x2, .int x3].toArray meth c := C
  have hl : lv_has ls 4 [(0, .ref (E.1 + a0)), (1, .int x1), (2, .int x2), (3, .int x3)] := hl
  unfold f_X9_setVat
  refine zz_aload_n C dX9_setVat_0 rfl (lv_at hl 0 rfl) ?_
  refine zz_get C (zz_lt h0 (by decide)) (zz_c9 h0) rfl in_X9_setVat_X9 0 (by decide) (List.mem_of_getElem? (i := 1) rfl) rfl dX9_setVat_1 ?_
  refine zz_iconst (v := 4) C dX9_setVat_4 (by decide) ?_
  refine zz_iconst (v := 4) C dX9_setVat_5 (by decide) ?_
  refine zz_iload_n C dX9_setVat_6 rfl (lv_at hl 1 rfl) ?_
  refine zz_imul C dX9_setVat_7 ?_
  refine zz_iadd C dX9_setVat_8 ?_
  refine zz_iload_n C dX9_setVat_9 rfl (lv_at hl 2 rfl) ?_
  refine zz_iadd C dX9_setVat_10 ?_
  refine zz_iload_n C dX9_setVat_11 rfl (lv_at hl 3 rfl) ?_
  refine zz_iast C (zz_lt (zz_s9_0 h0) (by decide)) (fun _ => zz_c13 (zz_s9_0 h0)) dX9_setVat_12 (fun M_1 => ?_)
  exact zz_vret C hr dX9_setVat_13
-- X9_at ('X9', 'at', '(II)I')
def f_X9_at (x0 : Int32) (x1 : Int32) (M : zz_M) : Option (Int32 × zz_M) := some ((((20 : Int32) + ((42 : Int32) * x0)) + x1), M)
set_option maxRecDepth 100000 in
set_option maxHeartbeats 4000000 in
theorem m_X9_at (l : Launch) (E : zz_E) (x0 : Int32) (x1 : Int32)  (M : zz_M) : zz_Met (zz_pi E) l yX9_at wsX9_at 1 E [.int x0, .int x1] M (f_X9_at x0 x1 M) := by
  refine zz_met (cc := cX9_at) (nL := 2) (ret := (some .int)) (by decide) rfl (Nat.le_of_ble_eq_true rfl) ?_
  intro p e s m below meth c C hr ls hl
  have C : zz_C E RX9 cX9_at 2 wsX9_at p s m [.int x0, .int x1].toArray meth c := C
  have hl : lv_has ls 2 [(0, .int x0), (1, .int x1)] := hl
  unfold f_X9_at
  refine zz_bipush (v := 20) C dX9_at_0 (by decide) ?_
  refine zz_bipush (v := 42) C dX9_at_2 (by decide) ?_
  refine zz_iload_n C dX9_at_4 rfl (lv_at hl 0 rfl) ?_
  refine zz_imul C dX9_at_5 ?_
  refine zz_iadd C dX9_at_6 ?_
  refine zz_iload_n C dX9_at_7 rfl (lv_at hl 1 rfl) ?_
  refine zz_iadd C dX9_at_8 ?_
  exact zz_iret C hr dX9_at_9
-- X9_kindOf ('X9', 'kindOf', '(I)I')
theorem in_X9_kindOf_X9 : ∀ w ∈ u_ws RX9 TX9 20, w ∈ wsX9_kindOf := fun _ h => List.mem_cons_of_mem _ (List.mem_append_right _ h)
theorem hdS_X9_at : yX9_at.cls ≠ "java/lang/invoke/MethodHandle" ∧ yX9_at.cls ≠ "java/lang/invoke/VarHandle" ∧ (parseMethodDescriptor yX9_at.desc).map (fun d => d.parameters.length) = some 2 := by decide +kernel
def f_X9_kindOf (a0 : Nat) (x1 : Int32) (M : zz_M) : Option (Int32 × zz_M) := zz_bd (f_X9_at x1 (0 : Int32) M) (fun r_1 M_2 => (if zz_in r_1 440 = true then some ((zz_i M_2 130 (zz_n r_1)), M_2) else none))
set_option maxRecDepth 100000 in
set_option maxHeartbeats 4000000 in
theorem m_X9_kindOf (l : Launch) (E : zz_E) (a0 : Nat) (x1 : Int32) (h0 : zz_sh a0 = 9) (M : zz_M) : zz_Met (zz_pi E) l yX9_kindOf wsX9_kindOf 2 E [.ref (E.1 + a0), .int x1] M (f_X9_kindOf a0 x1 M) := by
  refine zz_met (cc := cX9_kindOf) (nL := 2) (ret := (some .int)) (by decide) rfl (Nat.le_of_ble_eq_true rfl) ?_
  intro p e s m below meth c C hr ls hl
  have C : zz_C E RX9 cX9_kindOf 2 wsX9_kindOf p s m [.ref (E.1 + a0), .int x1].toArray meth c := C
  have hl : lv_has ls 2 [(0, .ref (E.1 + a0)), (1, .int x1)] := hl
  unfold f_X9_kindOf
  refine zz_aload_n C dX9_kindOf_0 rfl (lv_at hl 0 rfl) ?_
  refine zz_get C (zz_lt h0 (by decide)) (zz_c9 h0) rfl in_X9_kindOf_X9 0 (by decide) (List.mem_of_getElem? (i := 1) rfl) rfl dX9_kindOf_1 ?_
  refine zz_iload_n C dX9_kindOf_4 rfl (lv_at hl 1 rfl) ?_
  refine zz_iconst (v := 0) C dX9_kindOf_5 (by decide) ?_
  refine zz_callSi (As := [.int x1, .int (0 : Int32)]) (rest := [.ref (E.1 + 130)]) C (m_X9_at l E x1 (0 : Int32)  M) (va_cwS 2 C.1.2.2.2.2 gX9_kindOf_X9_at rfl rfl rfl hdS_X9_at ⟨Nat.le_of_ble_eq_true rfl, Nat.le_of_ble_eq_true rfl⟩) rfl hl.1 rfl (Nat.le_of_ble_eq_true rfl) dX9_kindOf_6 (fun r_1 M_2 => ?_)
  refine zz_iald C (zz_lt (zz_s9_0 h0) (by decide)) (zz_c13 (zz_s9_0 h0)) dX9_kindOf_9 ?_
  exact zz_iret C hr dX9_kindOf_10
-- X9_many ('X9', 'many', '(I)I')
theorem in_X9_many_X9 : ∀ w ∈ u_ws RX9 TX9 20, w ∈ wsX9_many := fun _ h => List.mem_cons_of_mem _ (List.mem_append_right _ h)
def f_X9_many (a0 : Nat) (x1 : Int32) (M : zz_M) : Option (Int32 × zz_M) := zz_bd (f_X9_at x1 (1 : Int32) M) (fun r_1 M_2 => (if zz_in r_1 440 = true then some ((zz_i M_2 130 (zz_n r_1)), M_2) else none))
set_option maxRecDepth 100000 in
set_option maxHeartbeats 4000000 in
theorem m_X9_many (l : Launch) (E : zz_E) (a0 : Nat) (x1 : Int32) (h0 : zz_sh a0 = 9) (M : zz_M) : zz_Met (zz_pi E) l yX9_many wsX9_many 2 E [.ref (E.1 + a0), .int x1] M (f_X9_many a0 x1 M) := by
  refine zz_met (cc := cX9_many) (nL := 2) (ret := (some .int)) (by decide) rfl (Nat.le_of_ble_eq_true rfl) ?_
  intro p e s m below meth c C hr ls hl
  have C : zz_C E RX9 cX9_many 2 wsX9_many p s m [.ref (E.1 + a0), .int x1].toArray meth c := C
  have hl : lv_has ls 2 [(0, .ref (E.1 + a0)), (1, .int x1)] := hl
  unfold f_X9_many
  refine zz_aload_n C dX9_many_0 rfl (lv_at hl 0 rfl) ?_
  refine zz_get C (zz_lt h0 (by decide)) (zz_c9 h0) rfl in_X9_many_X9 0 (by decide) (List.mem_of_getElem? (i := 1) rfl) rfl dX9_many_1 ?_
  refine zz_iload_n C dX9_many_4 rfl (lv_at hl 1 rfl) ?_
  refine zz_iconst (v := 1) C dX9_many_5 (by decide) ?_
  refine zz_callSi (As := [.int x1, .int (1 : Int32)]) (rest := [.ref (E.1 + 130)]) C (m_X9_at l E x1 (1 : Int32)  M) (va_cwS 2 C.1.2.2.2.2 gX9_many_X9_at rfl rfl rfl hdS_X9_at ⟨Nat.le_of_ble_eq_true rfl, Nat.le_of_ble_eq_true rfl⟩) rfl hl.1 rfl (Nat.le_of_ble_eq_true rfl) dX9_many_6 (fun r_1 M_2 => ?_)
  refine zz_iald C (zz_lt (zz_s9_0 h0) (by decide)) (zz_c13 (zz_s9_0 h0)) dX9_many_9 ?_
  exact zz_iret C hr dX9_many_10
-- X9_layerOf ('X9', 'layerOf', '(II)I')
theorem in_X9_layerOf_X9 : ∀ w ∈ u_ws RX9 TX9 20, w ∈ wsX9_layerOf := fun _ h => List.mem_cons_of_mem _ (List.mem_append_right _ h)
def f_X9_layerOf (a0 : Nat) (x1 : Int32) (x2 : Int32) (M : zz_M) : Option (Int32 × zz_M) := zz_bd (f_X9_at x1 ((2 : Int32) + x2) M) (fun r_1 M_2 => (if zz_in r_1 440 = true then some ((zz_i M_2 130 (zz_n r_1)), M_2) else none))
set_option maxRecDepth 100000 in
set_option maxHeartbeats 4000000 in
theorem m_X9_layerOf (l : Launch) (E : zz_E) (a0 : Nat) (x1 : Int32) (x2 : Int32) (h0 : zz_sh a0 = 9) (M : zz_M) : zz_Met (zz_pi E) l yX9_layerOf wsX9_layerOf 2 E [.ref (E.1 + a0), .int x1, .int x2] M (f_X9_layerOf a0 x1 x2 M) := by
  refine zz_met (cc := cX9_layerOf) (nL := 3) (ret := (some .int)) (by decide) rfl (Nat.le_of_ble_eq_true rfl) ?_
  intro p e s m below meth c C hr ls hl
  have C : zz_C E RX9 cX9_layerOf 3 wsX9_layerOf p s m [.ref (E.1 + a0), .int x1, .int x2].toArray meth c := C
  have hl : lv_has ls 3 [(0, .ref (E.1 + a0)), (1, .int x1), (2, .int x2)] := hl
  unfold f_X9_layerOf
  refine zz_aload_n C dX9_layerOf_0 rfl (lv_at hl 0 rfl) ?_
  refine zz_get C (zz_lt h0 (by decide)) (zz_c9 h0) rfl in_X9_layerOf_X9 0 (by decide) (List.mem_of_getElem? (i := 1) rfl) rfl dX9_layerOf_1 ?_
  refine zz_iload_n C dX9_layerOf_4 rfl (lv_at hl 1 rfl) ?_
  refine zz_iconst (v := 2) C dX9_layerOf_5 (by decide) ?_
  refine zz_iload_n C dX9_layerOf_6 rfl (lv_at hl 2 rfl) ?_
  refine zz_iadd C dX9_layerOf_7 ?_
  refine zz_callSi (As := [.int x1, .int ((2 : Int32) + x2)]) (rest := [.ref (E.1 + 130)]) C (m_X9_at l E x1 ((2 : Int32) + x2)  M) (va_cwS 2 C.1.2.2.2.2 gX9_layerOf_X9_at rfl rfl rfl hdS_X9_at ⟨Nat.le_of_ble_eq_true rfl, Nat.le_of_ble_eq_true rfl⟩) rfl hl.1 rfl (Nat.le_of_ble_eq_true rfl) dX9_layerOf_8 (fun r_1 M_2 => ?_)
  refine zz_iald C (zz_lt (zz_s9_0 h0) (by decide)) (zz_c13 (zz_s9_0 h0)) dX9_layerOf_11 ?_
  exact zz_iret C hr dX9_layerOf_12
-- X9_vatOf ('X9', 'vatOf', '(II)I')
theorem hdS_X9_isVat : yX9_isVat.cls ≠ "java/lang/invoke/MethodHandle" ∧ yX9_isVat.cls ≠ "java/lang/invoke/VarHandle" ∧ (parseMethodDescriptor yX9_isVat.desc).map (fun d => d.parameters.length) = some 1 := by decide +kernel
theorem hdV_X9_finds : yX9_finds.cls = RX9 ∧ yX9_finds.cls ≠ "java/lang/invoke/MethodHandle" ∧ yX9_finds.cls ≠ "java/lang/invoke/VarHandle" ∧ (parseMethodDescriptor yX9_finds.desc).map (fun d => d.parameters.length) = some 1 := by decide +kernel
theorem hdV_X9_its : yX9_its.cls = RX9 ∧ yX9_its.cls ≠ "java/lang/invoke/MethodHandle" ∧ yX9_its.cls ≠ "java/lang/invoke/VarHandle" ∧ (parseMethodDescriptor yX9_its.desc).map (fun d => d.parameters.length) = some 2 := by decide +kernel
def f_X9_vatOf (a0 : Nat) (x1 : Int32) (x2 : Int32) (M : zz_M) : Option (Int32 × zz_M) := zz_bd (f_X9_isVat x1 M) (fun r_1 M_2 => (if r_1 = 0 then zz_bd (f_X9_finds a0 (-1000000001 : Int32) M_2) (fun r_4 M_5 => some (r_4, M_5)) else zz_bd (f_X9_in x2 (0 : Int32) (3 : Int32) M_2) (fun r_6 M_7 => (if r_6 = 0 then zz_bd (f_X9_finds a0 (-1000000001 : Int32) M_7) (fun r_9 M_10 => some (r_9, M_10)) else zz_bd (f_X9_its a0 x1 x2 M_7) (fun r_11 M_12 => some (r_11, M_12))))))
set_option maxRecDepth 100000 in
set_option maxHeartbeats 4000000 in
theorem m_X9_vatOf (l : Launch) (E : zz_E) (a0 : Nat) (x1 : Int32) (x2 : Int32) (h0 : zz_sh a0 = 9) (M : zz_M) : zz_Met (zz_pi E) l yX9_vatOf wsX9_vatOf 3 E [.ref (E.1 + a0), .int x1, .int x2] M (f_X9_vatOf a0 x1 x2 M) := by
  refine zz_met (cc := cX9_vatOf) (nL := 3) (ret := (some .int)) (by decide) rfl (Nat.le_of_ble_eq_true rfl) ?_
  intro p e s m below meth c C hr ls hl
  have C : zz_C E RX9 cX9_vatOf 3 wsX9_vatOf p s m [.ref (E.1 + a0), .int x1, .int x2].toArray meth c := C
  have hl : lv_has ls 3 [(0, .ref (E.1 + a0)), (1, .int x1), (2, .int x2)] := hl
  unfold f_X9_vatOf
  refine zz_iload_n C dX9_vatOf_0 rfl (lv_at hl 1 rfl) ?_
  refine zz_callSi (As := [.int x1]) (rest := []) C (m_X9_isVat l E x1  M) (va_cwS 1 C.1.2.2.2.2 gX9_vatOf_X9_isVat rfl rfl rfl hdS_X9_isVat ⟨Nat.le_of_ble_eq_true rfl, Nat.le_of_ble_eq_true rfl⟩) rfl hl.1 rfl (Nat.le_of_ble_eq_true rfl) dX9_vatOf_1 (fun r_1 M_2 => ?_)
  refine zz_if_eq (tgt := 25) C dX9_vatOf_4 (by decide) (fun c_3 => ?_) (fun c_3 => ?_)
  · refine zz_aload_n C dX9_vatOf_25 rfl (lv_at hl 0 rfl) ?_
    refine zz_ldc (v := -1000000001) C (List.mem_of_getElem? (i := 1) rfl) dX9_vatOf_26 ?_
    refine zz_callVi (As := [.int (-1000000001 : Int32)]) (rest := []) C (m_X9_finds l E a0 (-1000000001 : Int32) h0 M_2) (cwV 1 C.1.2.2.2.2 gX9_vatOf_X9_finds rfl rfl rfl hdV_X9_finds ⟨Nat.le_of_ble_eq_true rfl, Nat.le_of_ble_eq_true rfl⟩) (zz_lt h0 (by decide)) (zz_c9 h0) rfl rfl hl.1 rfl (Nat.le_of_ble_eq_true rfl) dX9_vatOf_28 (fun r_4 M_5 => ?_)
    exact zz_iret C hr dX9_vatOf_31
  · refine zz_iload_n C dX9_vatOf_7 rfl (lv_at hl 2 rfl) ?_
    refine zz_iconst (v := 0) C dX9_vatOf_8 (by decide) ?_
    refine zz_iconst (v := 3) C dX9_vatOf_9 (by decide) ?_
    refine zz_callSi (As := [.int x2, .int (0 : Int32), .int (3 : Int32)]) (rest := []) C (m_X9_in l E x2 (0 : Int32) (3 : Int32)  M_2) (va_cwS 3 C.1.2.2.2.2 gX9_vatOf_X9_in rfl rfl rfl hdS_X9_in ⟨Nat.le_of_ble_eq_true rfl, Nat.le_of_ble_eq_true rfl⟩) rfl hl.1 rfl (Nat.le_of_ble_eq_true rfl) dX9_vatOf_10 (fun r_6 M_7 => ?_)
    refine zz_if_eq (tgt := 25) C dX9_vatOf_13 (by decide) (fun c_8 => ?_) (fun c_8 => ?_)
    · refine zz_aload_n C dX9_vatOf_25 rfl (lv_at hl 0 rfl) ?_
      refine zz_ldc (v := -1000000001) C (List.mem_of_getElem? (i := 1) rfl) dX9_vatOf_26 ?_
      refine zz_callVi (As := [.int (-1000000001 : Int32)]) (rest := []) C (m_X9_finds l E a0 (-1000000001 : Int32) h0 M_7) (cwV 1 C.1.2.2.2.2 gX9_vatOf_X9_finds rfl rfl rfl hdV_X9_finds ⟨Nat.le_of_ble_eq_true rfl, Nat.le_of_ble_eq_true rfl⟩) (zz_lt h0 (by decide)) (zz_c9 h0) rfl rfl hl.1 rfl (Nat.le_of_ble_eq_true rfl) dX9_vatOf_28 (fun r_9 M_10 => ?_)
      exact zz_iret C hr dX9_vatOf_31
    · refine zz_aload_n C dX9_vatOf_16 rfl (lv_at hl 0 rfl) ?_
      refine zz_iload_n C dX9_vatOf_17 rfl (lv_at hl 1 rfl) ?_
      refine zz_iload_n C dX9_vatOf_18 rfl (lv_at hl 2 rfl) ?_
      refine zz_callVi (As := [.int x1, .int x2]) (rest := []) C (m_X9_its l E a0 x1 x2 h0 M_7) (cwV 2 C.1.2.2.2.2 gX9_vatOf_X9_its rfl rfl rfl hdV_X9_its ⟨Nat.le_of_ble_eq_true rfl, Nat.le_of_ble_eq_true rfl⟩) (zz_lt h0 (by decide)) (zz_c9 h0) rfl rfl hl.1 rfl (Nat.le_of_ble_eq_true rfl) dX9_vatOf_19 (fun r_11 M_12 => ?_)
      refine zz_goto (tgt := 31) C dX9_vatOf_22 (by decide) ?_
      exact zz_iret C hr dX9_vatOf_31
-- X9_isTold ('X9', 'isTold', '(II)Z')
def f_X9_isTold (x0 : Int32) (x1 : Int32) (M : zz_M) : Option (Int32 × zz_M) := (if x0 = (0 : Int32) then zz_bd (f_X9_in x1 (0 : Int32) (1 : Int32) M) (fun r_2 M_3 => (if zz_bit r_2 = true then some (r_2, M_3) else none)) else (if x0 = (1 : Int32) then zz_bd (f_X9_in x1 (0 : Int32) (99 : Int32) M) (fun r_5 M_6 => (if zz_bit r_5 = true then some (r_5, M_6) else none)) else (if x0 = (2 : Int32) then zz_bd (f_X9_in x1 (0 : Int32) (99999 : Int32) M) (fun r_8 M_9 => (if zz_bit r_8 = true then some (r_8, M_9) else none)) else (if x0 = (3 : Int32) then zz_bd (f_X9_in x1 (0 : Int32) (1 : Int32) M) (fun r_11 M_12 => (if zz_bit r_11 = true then some (r_11, M_12) else none)) else some ((0 : Int32), M)))))
set_option maxRecDepth 100000 in
set_option maxHeartbeats 4000000 in
theorem m_X9_isTold (l : Launch) (E : zz_E) (x0 : Int32) (x1 : Int32)  (M : zz_M) : zz_Met (zz_pi E) l yX9_isTold wsX9_isTold 2 E [.int x0, .int x1] M (f_X9_isTold x0 x1 M) := by
  refine zz_met (cc := cX9_isTold) (nL := 2) (ret := (some .boolean)) (by decide) rfl (Nat.le_of_ble_eq_true rfl) ?_
  intro p e s m below meth c C hr ls hl
  have C : zz_C E RX9 cX9_isTold 2 wsX9_isTold p s m [.int x0, .int x1].toArray meth c := C
  have hl : lv_has ls 2 [(0, .int x0), (1, .int x1)] := hl
  unfold f_X9_isTold
  refine zz_iload_n C dX9_isTold_0 rfl (lv_at hl 0 rfl) ?_
  refine zz_ite (fun c_1 => ?_) (fun c_1 => ?_)
  · refine zz_tabIn (tgt := 32) C dX9_isTold_1 (by rw [c_1]; decide) (by rw [c_1]; decide) (by rw [c_1]; rfl) (by decide) ?_
    refine zz_iload_n C dX9_isTold_32 rfl (lv_at hl 1 rfl) ?_
    refine zz_iconst (v := 0) C dX9_isTold_33 (by decide) ?_
    refine zz_iconst (v := 1) C dX9_isTold_34 (by decide) ?_
    refine zz_callSi (As := [.int x1, .int (0 : Int32), .int (1 : Int32)]) (rest := []) C (m_X9_in l E x1 (0 : Int32) (1 : Int32)  M) (va_cwS 3 C.1.2.2.2.2 gX9_isTold_X9_in rfl rfl rfl hdS_X9_in ⟨Nat.le_of_ble_eq_true rfl, Nat.le_of_ble_eq_true rfl⟩) rfl hl.1 rfl (Nat.le_of_ble_eq_true rfl) dX9_isTold_35 (fun r_2 M_3 => ?_)
    exact zz_zret C hr dX9_isTold_38
  · refine zz_ite (fun c_4 => ?_) (fun c_4 => ?_)
    · refine zz_tabIn (tgt := 39) C dX9_isTold_1 (by rw [c_4]; decide) (by rw [c_4]; decide) (by rw [c_4]; rfl) (by decide) ?_
      refine zz_iload_n C dX9_isTold_39 rfl (lv_at hl 1 rfl) ?_
      refine zz_iconst (v := 0) C dX9_isTold_40 (by decide) ?_
      refine zz_bipush (v := 99) C dX9_isTold_41 (by decide) ?_
      refine zz_callSi (As := [.int x1, .int (0 : Int32), .int (99 : Int32)]) (rest := []) C (m_X9_in l E x1 (0 : Int32) (99 : Int32)  M) (va_cwS 3 C.1.2.2.2.2 gX9_isTold_X9_in rfl rfl rfl hdS_X9_in ⟨Nat.le_of_ble_eq_true rfl, Nat.le_of_ble_eq_true rfl⟩) rfl hl.1 rfl (Nat.le_of_ble_eq_true rfl) dX9_isTold_43 (fun r_5 M_6 => ?_)
      exact zz_zret C hr dX9_isTold_46
    · refine zz_ite (fun c_7 => ?_) (fun c_7 => ?_)
      · refine zz_tabIn (tgt := 47) C dX9_isTold_1 (by rw [c_7]; decide) (by rw [c_7]; decide) (by rw [c_7]; rfl) (by decide) ?_
        refine zz_iload_n C dX9_isTold_47 rfl (lv_at hl 1 rfl) ?_
        refine zz_iconst (v := 0) C dX9_isTold_48 (by decide) ?_
        refine zz_ldc (v := 99999) C (List.mem_of_getElem? (i := 1) rfl) dX9_isTold_49 ?_
        refine zz_callSi (As := [.int x1, .int (0 : Int32), .int (99999 : Int32)]) (rest := []) C (m_X9_in l E x1 (0 : Int32) (99999 : Int32)  M) (va_cwS 3 C.1.2.2.2.2 gX9_isTold_X9_in rfl rfl rfl hdS_X9_in ⟨Nat.le_of_ble_eq_true rfl, Nat.le_of_ble_eq_true rfl⟩) rfl hl.1 rfl (Nat.le_of_ble_eq_true rfl) dX9_isTold_51 (fun r_8 M_9 => ?_)
        exact zz_zret C hr dX9_isTold_54
      · refine zz_ite (fun c_10 => ?_) (fun c_10 => ?_)
        · refine zz_tabIn (tgt := 32) C dX9_isTold_1 (by rw [c_10]; decide) (by rw [c_10]; decide) (by rw [c_10]; rfl) (by decide) ?_
          refine zz_iload_n C dX9_isTold_32 rfl (lv_at hl 1 rfl) ?_
          refine zz_iconst (v := 0) C dX9_isTold_33 (by decide) ?_
          refine zz_iconst (v := 1) C dX9_isTold_34 (by decide) ?_
          refine zz_callSi (As := [.int x1, .int (0 : Int32), .int (1 : Int32)]) (rest := []) C (m_X9_in l E x1 (0 : Int32) (1 : Int32)  M) (va_cwS 3 C.1.2.2.2.2 gX9_isTold_X9_in rfl rfl rfl hdS_X9_in ⟨Nat.le_of_ble_eq_true rfl, Nat.le_of_ble_eq_true rfl⟩) rfl hl.1 rfl (Nat.le_of_ble_eq_true rfl) dX9_isTold_35 (fun r_11 M_12 => ?_)
          exact zz_zret C hr dX9_isTold_38
        · refine zz_tabOut (tgt := 55) C dX9_isTold_1 (by have q0 : x0.toInt ≠ 0 := zz_ne c_1; have q1 : x0.toInt ≠ 1 := zz_ne c_4; have q2 : x0.toInt ≠ 2 := zz_ne c_7; have q3 : x0.toInt ≠ 3 := zz_ne c_10; omega) (by decide) ?_
          refine zz_iconst (v := 0) C dX9_isTold_55 (by decide) ?_
          exact zz_zretl C (v := (0 : Int32)) rfl hr dX9_isTold_56
-- X9_vat ('X9', 'vat', '(III)I')
theorem hdS_X9_isTold : yX9_isTold.cls ≠ "java/lang/invoke/MethodHandle" ∧ yX9_isTold.cls ≠ "java/lang/invoke/VarHandle" ∧ (parseMethodDescriptor yX9_isTold.desc).map (fun d => d.parameters.length) = some 2 := by decide +kernel
theorem hdV_X9_setVat : yX9_setVat.cls = RX9 ∧ yX9_setVat.cls ≠ "java/lang/invoke/MethodHandle" ∧ yX9_setVat.cls ≠ "java/lang/invoke/VarHandle" ∧ (parseMethodDescriptor yX9_setVat.desc).map (fun d => d.parameters.length) = some 3 := by decide +kernel
def f_X9_vat (a0 : Nat) (x1 : Int32) (x2 : Int32) (x3 : Int32) (M : zz_M) : Option (Int32 × zz_M) := zz_bd (f_X9_isVat x1 M) (fun r_1 M_2 => (if r_1 = 0 then zz_bd (f_X9_finds a0 (-1000000001 : Int32) M_2) (fun r_4 M_5 => some (r_4, M_5)) else zz_bd (f_X9_isTold x2 x3 M_2) (fun r_6 M_7 => (if r_6 = 0 then zz_bd (f_X9_finds a0 (-1000000001 : Int32) M_7) (fun r_12 M_13 => some (r_12, M_13)) else zz_bd (f_X9_its a0 x1 x2 M_7) (fun r_9 M_10 => zz_bd (f_X9_setVat a0 x1 x2 x3 M_10) (fun _ M_11 => some (r_9, M_11)))))))
set_option maxRecDepth 100000 in
set_option maxHeartbeats 4000000 in
theorem m_X9_vat (l : Launch) (E : zz_E) (a0 : Nat) (x1 : Int32) (x2 : Int32) (x3 : Int32) (h0 : zz_sh a0 = 9) (M : zz_M) : zz_Met (zz_pi E) l yX9_vat wsX9_vat 3 E [.ref (E.1 + a0), .int x1, .int x2, .int x3] M (f_X9_vat a0 x1 x2 x3 M) := by
  refine zz_met (cc := cX9_vat) (nL := 5) (ret := (some .int)) (by decide) rfl (Nat.le_of_ble_eq_true rfl) ?_
  intro p e s m below meth c C hr ls hl
  have C : zz_C E RX9 cX9_vat 5 wsX9_vat p s m [.ref (E.1 + a0), .int x1, .int x2, .int x3].toArray meth c := C
  have hl : lv_has ls 5 [(0, .ref (E.1 + a0)), (1, .int x1), (2, .int x2), (3, .int x3)] := hl
  unfold f_X9_vat
  refine zz_iload_n C dX9_vat_0 rfl (lv_at hl 1 rfl) ?_
  refine zz_callSi (As := [.int x1]) (rest := []) C (m_X9_isVat l E x1  M) (va_cwS 1 C.1.2.2.2.2 gX9_vat_X9_isVat rfl rfl rfl hdS_X9_isVat ⟨Nat.le_of_ble_eq_true rfl, Nat.le_of_ble_eq_true rfl⟩) rfl hl.1 rfl (Nat.le_of_ble_eq_true rfl) dX9_vat_1 (fun r_1 M_2 => ?_)
  refine zz_if_eq (tgt := 15) C dX9_vat_4 (by decide) (fun c_3 => ?_) (fun c_3 => ?_)
  · refine zz_aload_n C dX9_vat_15 rfl (lv_at hl 0 rfl) ?_
    refine zz_ldc (v := -1000000001) C (List.mem_of_getElem? (i := 1) rfl) dX9_vat_16 ?_
    refine zz_callVi (As := [.int (-1000000001 : Int32)]) (rest := []) C (m_X9_finds l E a0 (-1000000001 : Int32) h0 M_2) (cwV 1 C.1.2.2.2.2 gX9_vat_X9_finds rfl rfl rfl hdV_X9_finds ⟨Nat.le_of_ble_eq_true rfl, Nat.le_of_ble_eq_true rfl⟩) (zz_lt h0 (by decide)) (zz_c9 h0) rfl rfl hl.1 rfl (Nat.le_of_ble_eq_true rfl) dX9_vat_18 (fun r_4 M_5 => ?_)
    exact zz_iret C hr dX9_vat_21
  · refine zz_iload_n C dX9_vat_7 rfl (lv_at hl 2 rfl) ?_
    refine zz_iload_n C dX9_vat_8 rfl (lv_at hl 3 rfl) ?_
    refine zz_callSi (As := [.int x2, .int x3]) (rest := []) C (m_X9_isTold l E x2 x3  M_2) (va_cwS 2 C.1.2.2.2.2 gX9_vat_X9_isTold rfl rfl rfl hdS_X9_isTold ⟨Nat.le_of_ble_eq_true rfl, Nat.le_of_ble_eq_true rfl⟩) rfl hl.1 rfl (Nat.le_of_ble_eq_true rfl) dX9_vat_9 (fun r_6 M_7 => ?_)
    refine zz_if_ne (tgt := 22) C dX9_vat_12 (by decide) (fun c_8 => ?_) (fun c_8 => ?_)
    · refine zz_aload_n C dX9_vat_15 rfl (lv_at hl 0 rfl) ?_
      refine zz_ldc (v := -1000000001) C (List.mem_of_getElem? (i := 1) rfl) dX9_vat_16 ?_
      refine zz_callVi (As := [.int (-1000000001 : Int32)]) (rest := []) C (m_X9_finds l E a0 (-1000000001 : Int32) h0 M_7) (cwV 1 C.1.2.2.2.2 gX9_vat_X9_finds rfl rfl rfl hdV_X9_finds ⟨Nat.le_of_ble_eq_true rfl, Nat.le_of_ble_eq_true rfl⟩) (zz_lt h0 (by decide)) (zz_c9 h0) rfl rfl hl.1 rfl (Nat.le_of_ble_eq_true rfl) dX9_vat_18 (fun r_12 M_13 => ?_)
      exact zz_iret C hr dX9_vat_21
    · refine zz_aload_n C dX9_vat_22 rfl (lv_at hl 0 rfl) ?_
      refine zz_iload_n C dX9_vat_23 rfl (lv_at hl 1 rfl) ?_
      refine zz_iload_n C dX9_vat_24 rfl (lv_at hl 2 rfl) ?_
      refine zz_callVi (As := [.int x1, .int x2]) (rest := []) C (m_X9_its l E a0 x1 x2 h0 M_7) (cwV 2 C.1.2.2.2.2 gX9_vat_X9_its rfl rfl rfl hdV_X9_its ⟨Nat.le_of_ble_eq_true rfl, Nat.le_of_ble_eq_true rfl⟩) (zz_lt h0 (by decide)) (zz_c9 h0) rfl rfl hl.1 rfl (Nat.le_of_ble_eq_true rfl) dX9_vat_25 (fun r_9 M_10 => ?_)
      refine zz_istored (lv' := [(4, .int r_9), (0, .ref (E.1 + a0)), (1, .int x1), (2, .int x2), (3, .int x3)]) C dX9_vat_28 hl (by decide) rfl (fun ls hl => ?_)
      refine zz_aload_n C dX9_vat_30 rfl (lv_at hl 1 rfl) ?_
      refine zz_iload_n C dX9_vat_31 rfl (lv_at hl 2 rfl) ?_
      refine zz_iload_n C dX9_vat_32 rfl (lv_at hl 3 rfl) ?_
      refine zz_iload_n C dX9_vat_33 rfl (lv_at hl 4 rfl) ?_
      refine zz_callVv (As := [.int x1, .int x2, .int x3]) (rest := []) C (m_X9_setVat l E a0 x1 x2 x3 h0 M_10) (cwV 3 C.1.2.2.2.2 gX9_vat_X9_setVat rfl rfl rfl hdV_X9_setVat ⟨Nat.le_of_ble_eq_true rfl, Nat.le_of_ble_eq_true rfl⟩) (zz_lt h0 (by decide)) (zz_c9 h0) rfl rfl hl.1 rfl (Nat.le_of_ble_eq_true rfl) dX9_vat_34 (fun _ M_11 => ?_)
      refine zz_iload C dX9_vat_37 (lv_at hl 0 rfl) ?_
      exact zz_iret C hr dX9_vat_39
-- X9_let ('X9', 'let', '(II)I')
theorem in_X9_let_X9 : ∀ w ∈ u_ws RX9 TX9 20, w ∈ wsX9_let := fun _ h => List.mem_cons_of_mem _ (List.mem_append_right _ h)
def b_X9_let_40 (a0 : Nat) (x1 : Int32) (x2 : Int32) (M : zz_M) : Option (Int32 × zz_M) := (if zz_in ((1 : Int32) + x1) 440 = true then zz_w (zz_i M 130 (zz_n ((1 : Int32) + x1))) (fun x3_15 => (if zz_in ((1 : Int32) + x1) 440 = true then zz_w (zz_si M 130 (zz_n ((1 : Int32) + x1)) x2) (fun M_16 => some (x3_15, M_16)) else none)) else none)
set_option maxRecDepth 100000 in
set_option maxHeartbeats 4000000 in
theorem wb_X9_let_40 {p : Program} {l : Launch} {e : Env} {s : State} {m : MethodId} {args : Array Value} {below : List Frame} {meth : Method} {c : Code} {E : zz_E} (C : zz_C E RX9 cX9_let 4 wsX9_let p s m args meth c) (hr : meth.sig.returnType = (some .int)) : ∀ (a0 : Nat) (x1 : Int32) (x2 : Int32) (ha0 : zz_sh a0 = 9) (M : zz_M) (ls : Array Slot), lv_has ls 4 [(0, .ref (E.1 + a0)), (1, .int x1), (2, .int x2)] → zz_Z E p l e (zz_rm 2) s m args below meth c (zz_Q (zz_pi E) E below args s) (b_X9_let_40 a0 x1 x2 M) M (F0 m 40 ls []) := by
  intro a0 x1 x2 ha0 M ls hl
  unfold b_X9_let_40
  refine zz_aload_n C dX9_let_40 rfl (lv_at hl 0 rfl) ?_
  refine zz_get C (zz_lt ha0 (by decide)) (zz_c9 ha0) rfl in_X9_let_X9 0 (by decide) (List.mem_of_getElem? (i := 2) rfl) rfl dX9_let_41 ?_
  refine zz_iconst (v := 1) C dX9_let_44 (by decide) ?_
  refine zz_iload_n C dX9_let_45 rfl (lv_at hl 1 rfl) ?_
  refine zz_iadd C dX9_let_46 ?_
  refine zz_iald C (zz_lt (zz_s9_0 ha0) (by decide)) (zz_c13 (zz_s9_0 ha0)) dX9_let_47 ?_
  refine zz_istore_n C (fun x3_15 => [(3, .int x3_15), (0, .ref (E.1 + a0)), (1, .int x1), (2, .int x2)]) dX9_let_48 rfl hl (by decide) (fun _ => rfl) (fun x3_15 ls hl => ?_)
  refine zz_aload_n C dX9_let_49 rfl (lv_at hl 1 rfl) ?_
  refine zz_get C (zz_lt ha0 (by decide)) (zz_c9 ha0) rfl in_X9_let_X9 0 (by decide) (List.mem_of_getElem? (i := 2) rfl) rfl dX9_let_50 ?_
  refine zz_iconst (v := 1) C dX9_let_53 (by decide) ?_
  refine zz_iload_n C dX9_let_54 rfl (lv_at hl 2 rfl) ?_
  refine zz_iadd C dX9_let_55 ?_
  refine zz_iload_n C dX9_let_56 rfl (lv_at hl 3 rfl) ?_
  refine zz_iast C (zz_lt (zz_s9_0 ha0) (by decide)) (fun _ => zz_c13 (zz_s9_0 ha0)) dX9_let_57 (fun M_16 => ?_)
  refine zz_iload_n C dX9_let_58 rfl (lv_at hl 0 rfl) ?_
  exact zz_iret C hr dX9_let_59
def f_X9_let (a0 : Nat) (x1 : Int32) (x2 : Int32) (M : zz_M) : Option (Int32 × zz_M) := (if x1 = 0 then zz_bd (f_X9_in x2 (0 : Int32) (9999 : Int32) M) (fun r_10 M_11 => (if r_10 = 0 then zz_bd (f_X9_finds a0 (-1000000001 : Int32) M_11) (fun r_13 M_14 => some (r_13, M_14)) else b_X9_let_40  a0 x1 x2 M_11)) else (if x1 = (1 : Int32) then zz_bd (f_X9_in x2 (0 : Int32) (9 : Int32) M) (fun r_5 M_6 => (if r_5 = 0 then zz_bd (f_X9_finds a0 (-1000000001 : Int32) M_6) (fun r_8 M_9 => some (r_8, M_9)) else b_X9_let_40  a0 x1 x2 M_6)) else zz_bd (f_X9_finds a0 (-1000000001 : Int32) M) (fun r_3 M_4 => some (r_3, M_4))))
set_option maxRecDepth 100000 in
set_option maxHeartbeats 4000000 in
theorem m_X9_let (l : Launch) (E : zz_E) (a0 : Nat) (x1 : Int32) (x2 : Int32) (h0 : zz_sh a0 = 9) (M : zz_M) : zz_Met (zz_pi E) l yX9_let wsX9_let 2 E [.ref (E.1 + a0), .int x1, .int x2] M (f_X9_let a0 x1 x2 M) := by
  refine zz_met (cc := cX9_let) (nL := 4) (ret := (some .int)) (by decide) rfl (Nat.le_of_ble_eq_true rfl) ?_
  intro p e s m below meth c C hr ls hl
  have C : zz_C E RX9 cX9_let 4 wsX9_let p s m [.ref (E.1 + a0), .int x1, .int x2].toArray meth c := C
  have hl : lv_has ls 4 [(0, .ref (E.1 + a0)), (1, .int x1), (2, .int x2)] := hl
  unfold f_X9_let
  refine zz_iload_n C dX9_let_0 rfl (lv_at hl 1 rfl) ?_
  refine zz_if_ne (tgt := 18) C dX9_let_1 (by decide) (fun c_1 => ?_) (fun c_1 => ?_)
  · refine zz_iload_n C dX9_let_4 rfl (lv_at hl 2 rfl) ?_
    refine zz_iconst (v := 0) C dX9_let_5 (by decide) ?_
    refine zz_sipush (v := 9999) C dX9_let_6 (by decide) ?_
    refine zz_callSi (As := [.int x2, .int (0 : Int32), .int (9999 : Int32)]) (rest := []) C (m_X9_in l E x2 (0 : Int32) (9999 : Int32)  M) (va_cwS 3 C.1.2.2.2.2 gX9_let_X9_in rfl rfl rfl hdS_X9_in ⟨Nat.le_of_ble_eq_true rfl, Nat.le_of_ble_eq_true rfl⟩) rfl hl.1 rfl (Nat.le_of_ble_eq_true rfl) dX9_let_9 (fun r_10 M_11 => ?_)
    refine zz_if_ne (tgt := 40) C dX9_let_12 (by decide) (fun c_12 => ?_) (fun c_12 => ?_)
    · refine zz_goto (tgt := 33) C dX9_let_15 (by decide) ?_
      refine zz_aload_n C dX9_let_33 rfl (lv_at hl 0 rfl) ?_
      refine zz_ldc (v := -1000000001) C (List.mem_of_getElem? (i := 1) rfl) dX9_let_34 ?_
      refine zz_callVi (As := [.int (-1000000001 : Int32)]) (rest := []) C (m_X9_finds l E a0 (-1000000001 : Int32) h0 M_11) (cwV 1 C.1.2.2.2.2 gX9_let_X9_finds rfl rfl rfl hdV_X9_finds ⟨Nat.le_of_ble_eq_true rfl, Nat.le_of_ble_eq_true rfl⟩) (zz_lt h0 (by decide)) (zz_c9 h0) rfl rfl hl.1 rfl (Nat.le_of_ble_eq_true rfl) dX9_let_36 (fun r_13 M_14 => ?_)
      exact zz_iret C hr dX9_let_39
    · exact wb_X9_let_40 C hr  a0 x1 x2 h0 M_11 ls (lv_sub hl [0, 1, 2] rfl)
  · refine zz_iload_n C dX9_let_18 rfl (lv_at hl 1 rfl) ?_
    refine zz_iconst (v := 1) C dX9_let_19 (by decide) ?_
    refine zz_icmp_ne (tgt := 33) C dX9_let_20 (by decide) (fun c_2 => ?_) (fun c_2 => ?_)
    · refine zz_iload_n C dX9_let_23 rfl (lv_at hl 2 rfl) ?_
      refine zz_iconst (v := 0) C dX9_let_24 (by decide) ?_
      refine zz_bipush (v := 9) C dX9_let_25 (by decide) ?_
      refine zz_callSi (As := [.int x2, .int (0 : Int32), .int (9 : Int32)]) (rest := []) C (m_X9_in l E x2 (0 : Int32) (9 : Int32)  M) (va_cwS 3 C.1.2.2.2.2 gX9_let_X9_in rfl rfl rfl hdS_X9_in ⟨Nat.le_of_ble_eq_true rfl, Nat.le_of_ble_eq_true rfl⟩) rfl hl.1 rfl (Nat.le_of_ble_eq_true rfl) dX9_let_27 (fun r_5 M_6 => ?_)
      refine zz_if_ne (tgt := 40) C dX9_let_30 (by decide) (fun c_7 => ?_) (fun c_7 => ?_)
      · refine zz_aload_n C dX9_let_33 rfl (lv_at hl 0 rfl) ?_
        refine zz_ldc (v := -1000000001) C (List.mem_of_getElem? (i := 1) rfl) dX9_let_34 ?_
        refine zz_callVi (As := [.int (-1000000001 : Int32)]) (rest := []) C (m_X9_finds l E a0 (-1000000001 : Int32) h0 M_6) (cwV 1 C.1.2.2.2.2 gX9_let_X9_finds rfl rfl rfl hdV_X9_finds ⟨Nat.le_of_ble_eq_true rfl, Nat.le_of_ble_eq_true rfl⟩) (zz_lt h0 (by decide)) (zz_c9 h0) rfl rfl hl.1 rfl (Nat.le_of_ble_eq_true rfl) dX9_let_36 (fun r_8 M_9 => ?_)
        exact zz_iret C hr dX9_let_39
      · exact wb_X9_let_40 C hr  a0 x1 x2 h0 M_6 ls (lv_sub hl [0, 1, 2] rfl)
    · refine zz_aload_n C dX9_let_33 rfl (lv_at hl 0 rfl) ?_
      refine zz_ldc (v := -1000000001) C (List.mem_of_getElem? (i := 1) rfl) dX9_let_34 ?_
      refine zz_callVi (As := [.int (-1000000001 : Int32)]) (rest := []) C (m_X9_finds l E a0 (-1000000001 : Int32) h0 M) (cwV 1 C.1.2.2.2.2 gX9_let_X9_finds rfl rfl rfl hdV_X9_finds ⟨Nat.le_of_ble_eq_true rfl, Nat.le_of_ble_eq_true rfl⟩) (zz_lt h0 (by decide)) (zz_c9 h0) rfl rfl hl.1 rfl (Nat.le_of_ble_eq_true rfl) dX9_let_36 (fun r_3 M_4 => ?_)
      exact zz_iret C hr dX9_let_39
-- X9_addCandle ('X9', 'addCandle', '(I)V')
theorem in_X9_addCandle_X9 : ∀ w ∈ u_ws RX9 TX9 20, w ∈ wsX9_addCandle := fun _ h => List.mem_cons_of_mem _ (List.mem_append_right _ h)
def f_X9_addCandle (a0 : Nat) (x1 : Int32) (M : zz_M) : Option (Unit × zz_M) := (if zz_in (0 : Int32) 440 = true then zz_w (zz_i M 130 (zz_n (0 : Int32))) (fun x2_1 => zz_bd (f_X9_at x2_1 (0 : Int32) M) (fun r_2 M_3 => (if zz_in r_2 440 = true then zz_w (zz_si M_3 130 (zz_n r_2) x1) (fun M_4 => zz_bd (f_X9_at x2_1 (1 : Int32) M_4) (fun r_5 M_6 => (if zz_in r_5 440 = true then zz_w (zz_si M_6 130 (zz_n r_5) (0 : Int32)) (fun M_7 => (if zz_in (0 : Int32) 440 = true then (if zz_in (0 : Int32) 440 = true then zz_w (zz_si M_7 130 (zz_n (0 : Int32)) ((zz_i M_7 130 (zz_n (0 : Int32))) + (1 : Int32))) (fun M_8 => some ((), M_8)) else none) else none)) else none))) else none))) else none)
set_option maxRecDepth 100000 in
set_option maxHeartbeats 4000000 in
theorem m_X9_addCandle (l : Launch) (E : zz_E) (a0 : Nat) (x1 : Int32) (h0 : zz_sh a0 = 9) (M : zz_M) : zz_Met (zz_pv E) l yX9_addCandle wsX9_addCandle 2 E [.ref (E.1 + a0), .int x1] M (f_X9_addCandle a0 x1 M) := by
  refine zz_met (cc := cX9_addCandle) (nL := 3) (ret := none) (by decide) rfl (Nat.le_of_ble_eq_true rfl) ?_
  intro p e s m below meth c C hr ls hl
  have C : zz_C E RX9 cX9_addCandle 3 wsX9_addCandle p s m [.ref (E.1 + a0), .int x1].toArray meth c := C
  have hl : lv_has ls 3 [(0, .ref (E.1 + a0)), (1, .int x1)] := hl
  unfold f_X9_addCandle
  refine zz_aload_n C dX9_addCandle_0 rfl (lv_at hl 0 rfl) ?_
  refine zz_get C (zz_lt h0 (by decide)) (zz_c9 h0) rfl in_X9_addCandle_X9 0 (by decide) (List.mem_of_getElem? (i := 1) rfl) rfl dX9_addCandle_1 ?_
  refine zz_iconst (v := 0) C dX9_addCandle_4 (by decide) ?_
  refine zz_iald C (zz_lt (zz_s9_0 h0) (by decide)) (zz_c13 (zz_s9_0 h0)) dX9_addCandle_5 ?_
  refine zz_istore_n C (fun x2_1 => [(2, .int x2_1), (0, .ref (E.1 + a0)), (1, .int x1)]) dX9_addCandle_6 rfl hl (by decide) (fun _ => rfl) (fun x2_1 ls hl => ?_)
  refine zz_aload_n C dX9_addCandle_7 rfl (lv_at hl 1 rfl) ?_
  refine zz_get C (zz_lt h0 (by decide)) (zz_c9 h0) rfl in_X9_addCandle_X9 0 (by decide) (List.mem_of_getElem? (i := 1) rfl) rfl dX9_addCandle_8 ?_
  refine zz_iload_n C dX9_addCandle_11 rfl (lv_at hl 0 rfl) ?_
  refine zz_iconst (v := 0) C dX9_addCandle_12 (by decide) ?_
  refine zz_callSi (As := [.int x2_1, .int (0 : Int32)]) (rest := [.ref (E.1 + 130)]) C (m_X9_at l E x2_1 (0 : Int32)  M) (va_cwS 2 C.1.2.2.2.2 gX9_addCandle_X9_at rfl rfl rfl hdS_X9_at ⟨Nat.le_of_ble_eq_true rfl, Nat.le_of_ble_eq_true rfl⟩) rfl hl.1 rfl (Nat.le_of_ble_eq_true rfl) dX9_addCandle_13 (fun r_2 M_3 => ?_)
  refine zz_iload_n C dX9_addCandle_16 rfl (lv_at hl 2 rfl) ?_
  refine zz_iast C (zz_lt (zz_s9_0 h0) (by decide)) (fun _ => zz_c13 (zz_s9_0 h0)) dX9_addCandle_17 (fun M_4 => ?_)
  refine zz_aload_n C dX9_addCandle_18 rfl (lv_at hl 1 rfl) ?_
  refine zz_get C (zz_lt h0 (by decide)) (zz_c9 h0) rfl in_X9_addCandle_X9 0 (by decide) (List.mem_of_getElem? (i := 1) rfl) rfl dX9_addCandle_19 ?_
  refine zz_iload_n C dX9_addCandle_22 rfl (lv_at hl 0 rfl) ?_
  refine zz_iconst (v := 1) C dX9_addCandle_23 (by decide) ?_
  refine zz_callSi (As := [.int x2_1, .int (1 : Int32)]) (rest := [.ref (E.1 + 130)]) C (m_X9_at l E x2_1 (1 : Int32)  M_4) (va_cwS 2 C.1.2.2.2.2 gX9_addCandle_X9_at rfl rfl rfl hdS_X9_at ⟨Nat.le_of_ble_eq_true rfl, Nat.le_of_ble_eq_true rfl⟩) rfl hl.1 rfl (Nat.le_of_ble_eq_true rfl) dX9_addCandle_24 (fun r_5 M_6 => ?_)
  refine zz_iconst (v := 0) C dX9_addCandle_27 (by decide) ?_
  refine zz_iast C (zz_lt (zz_s9_0 h0) (by decide)) (fun _ => zz_c13 (zz_s9_0 h0)) dX9_addCandle_28 (fun M_7 => ?_)
  refine zz_aload_n C dX9_addCandle_29 rfl (lv_at hl 1 rfl) ?_
  refine zz_get C (zz_lt h0 (by decide)) (zz_c9 h0) rfl in_X9_addCandle_X9 0 (by decide) (List.mem_of_getElem? (i := 1) rfl) rfl dX9_addCandle_30 ?_
  refine zz_iconst (v := 0) C dX9_addCandle_33 (by decide) ?_
  refine zz_dup2_11 C dX9_addCandle_34 rfl rfl ?_
  refine zz_iald C (zz_lt (zz_s9_0 h0) (by decide)) (zz_c13 (zz_s9_0 h0)) dX9_addCandle_35 ?_
  refine zz_iconst (v := 1) C dX9_addCandle_36 (by decide) ?_
  refine zz_iadd C dX9_addCandle_37 ?_
  refine zz_iast C (zz_lt (zz_s9_0 h0) (by decide)) (fun _ => zz_c13 (zz_s9_0 h0)) dX9_addCandle_38 (fun M_8 => ?_)
  exact zz_vret C hr dX9_addCandle_39
-- X9_candle ('X9', 'candle', '(I)I')
theorem in_X9_candle_X9 : ∀ w ∈ u_ws RX9 TX9 20, w ∈ wsX9_candle := fun _ h => List.mem_cons_of_mem _ (List.mem_append_right _ h)
theorem hdS_X9_isKind : yX9_isKind.cls ≠ "java/lang/invoke/MethodHandle" ∧ yX9_isKind.cls ≠ "java/lang/invoke/VarHandle" ∧ (parseMethodDescriptor yX9_isKind.desc).map (fun d => d.parameters.length) = some 1 := by decide +kernel
theorem hdV_X9_addCandle : yX9_addCandle.cls = RX9 ∧ yX9_addCandle.cls ≠ "java/lang/invoke/MethodHandle" ∧ yX9_addCandle.cls ≠ "java/lang/invoke/VarHandle" ∧ (parseMethodDescriptor yX9_addCandle.desc).map (fun d => d.parameters.length) = some 1 := by decide +kernel
def f_X9_candle (a0 : Nat) (x1 : Int32) (M : zz_M) : Option (Int32 × zz_M) := zz_bd (f_X9_isKind x1 M) (fun r_1 M_2 => (if r_1 = 0 then zz_bd (f_X9_finds a0 (-1000000001 : Int32) M_2) (fun r_8 M_9 => some (r_8, M_9)) else (if zz_in (0 : Int32) 440 = true then (if (zz_i M_2 130 (zz_n (0 : Int32))) = (10 : Int32) then zz_bd (f_X9_finds a0 (-1000000002 : Int32) M_2) (fun r_6 M_7 => some (r_6, M_7)) else zz_bd (f_X9_addCandle a0 x1 M_2) (fun _ M_5 => (if zz_in (0 : Int32) 440 = true then some (((zz_i M_5 130 (zz_n (0 : Int32))) - (1 : Int32)), M_5) else none))) else none)))
set_option maxRecDepth 100000 in
set_option maxHeartbeats 4000000 in
theorem m_X9_candle (l : Launch) (E : zz_E) (a0 : Nat) (x1 : Int32) (h0 : zz_sh a0 = 9) (M : zz_M) : zz_Met (zz_pi E) l yX9_candle wsX9_candle 3 E [.ref (E.1 + a0), .int x1] M (f_X9_candle a0 x1 M) := by
  refine zz_met (cc := cX9_candle) (nL := 2) (ret := (some .int)) (by decide) rfl (Nat.le_of_ble_eq_true rfl) ?_
  intro p e s m below meth c C hr ls hl
  have C : zz_C E RX9 cX9_candle 2 wsX9_candle p s m [.ref (E.1 + a0), .int x1].toArray meth c := C
  have hl : lv_has ls 2 [(0, .ref (E.1 + a0)), (1, .int x1)] := hl
  unfold f_X9_candle
  refine zz_iload_n C dX9_candle_0 rfl (lv_at hl 1 rfl) ?_
  refine zz_callSi (As := [.int x1]) (rest := []) C (m_X9_isKind l E x1  M) (va_cwS 1 C.1.2.2.2.2 gX9_candle_X9_isKind rfl rfl rfl hdS_X9_isKind ⟨Nat.le_of_ble_eq_true rfl, Nat.le_of_ble_eq_true rfl⟩) rfl hl.1 rfl (Nat.le_of_ble_eq_true rfl) dX9_candle_1 (fun r_1 M_2 => ?_)
  refine zz_if_ne (tgt := 14) C dX9_candle_4 (by decide) (fun c_3 => ?_) (fun c_3 => ?_)
  · refine zz_aload_n C dX9_candle_7 rfl (lv_at hl 0 rfl) ?_
    refine zz_ldc (v := -1000000001) C (List.mem_of_getElem? (i := 1) rfl) dX9_candle_8 ?_
    refine zz_callVi (As := [.int (-1000000001 : Int32)]) (rest := []) C (m_X9_finds l E a0 (-1000000001 : Int32) h0 M_2) (cwV 1 C.1.2.2.2.2 gX9_candle_X9_finds rfl rfl rfl hdV_X9_finds ⟨Nat.le_of_ble_eq_true rfl, Nat.le_of_ble_eq_true rfl⟩) (zz_lt h0 (by decide)) (zz_c9 h0) rfl rfl hl.1 rfl (Nat.le_of_ble_eq_true rfl) dX9_candle_10 (fun r_8 M_9 => ?_)
    exact zz_iret C hr dX9_candle_13
  · refine zz_aload_n C dX9_candle_14 rfl (lv_at hl 0 rfl) ?_
    refine zz_get C (zz_lt h0 (by decide)) (zz_c9 h0) rfl in_X9_candle_X9 0 (by decide) (List.mem_of_getElem? (i := 2) rfl) rfl dX9_candle_15 ?_
    refine zz_iconst (v := 0) C dX9_candle_18 (by decide) ?_
    refine zz_iald C (zz_lt (zz_s9_0 h0) (by decide)) (zz_c13 (zz_s9_0 h0)) dX9_candle_19 ?_
    refine zz_bipush (v := 10) C dX9_candle_20 (by decide) ?_
    refine zz_icmp_ne (tgt := 32) C dX9_candle_22 (by decide) (fun c_4 => ?_) (fun c_4 => ?_)
    · refine zz_aload_n C dX9_candle_25 rfl (lv_at hl 0 rfl) ?_
      refine zz_ldc (v := -1000000002) C (List.mem_of_getElem? (i := 3) rfl) dX9_candle_26 ?_
      refine zz_callVi (As := [.int (-1000000002 : Int32)]) (rest := []) C (m_X9_finds l E a0 (-1000000002 : Int32) h0 M_2) (cwV 1 C.1.2.2.2.2 gX9_candle_X9_finds rfl rfl rfl hdV_X9_finds ⟨Nat.le_of_ble_eq_true rfl, Nat.le_of_ble_eq_true rfl⟩) (zz_lt h0 (by decide)) (zz_c9 h0) rfl rfl hl.1 rfl (Nat.le_of_ble_eq_true rfl) dX9_candle_28 (fun r_6 M_7 => ?_)
      exact zz_iret C hr dX9_candle_31
    · refine zz_aload_n C dX9_candle_32 rfl (lv_at hl 0 rfl) ?_
      refine zz_iload_n C dX9_candle_33 rfl (lv_at hl 1 rfl) ?_
      refine zz_callVv (As := [.int x1]) (rest := []) C (m_X9_addCandle l E a0 x1 h0 M_2) (cwV 1 C.1.2.2.2.2 gX9_candle_X9_addCandle rfl rfl rfl hdV_X9_addCandle ⟨Nat.le_of_ble_eq_true rfl, Nat.le_of_ble_eq_true rfl⟩) (zz_lt h0 (by decide)) (zz_c9 h0) rfl rfl hl.1 rfl (Nat.le_of_ble_eq_true rfl) dX9_candle_34 (fun _ M_5 => ?_)
      refine zz_aload_n C dX9_candle_37 rfl (lv_at hl 0 rfl) ?_
      refine zz_get C (zz_lt h0 (by decide)) (zz_c9 h0) rfl in_X9_candle_X9 0 (by decide) (List.mem_of_getElem? (i := 2) rfl) rfl dX9_candle_38 ?_
      refine zz_iconst (v := 0) C dX9_candle_41 (by decide) ?_
      refine zz_iald C (zz_lt (zz_s9_0 h0) (by decide)) (zz_c13 (zz_s9_0 h0)) dX9_candle_42 ?_
      refine zz_iconst (v := 1) C dX9_candle_43 (by decide) ?_
      refine zz_isub C dX9_candle_44 ?_
      exact zz_iret C hr dX9_candle_45
-- X9_grams ('X9', 'grams', '(IZ)I')
theorem hdV_X9_layerOf : yX9_layerOf.cls = RX9 ∧ yX9_layerOf.cls ≠ "java/lang/invoke/MethodHandle" ∧ yX9_layerOf.cls ≠ "java/lang/invoke/VarHandle" ∧ (parseMethodDescriptor yX9_layerOf.desc).map (fun d => d.parameters.length) = some 2 := by decide +kernel
theorem hdV_X9_many : yX9_many.cls = RX9 ∧ yX9_many.cls ≠ "java/lang/invoke/MethodHandle" ∧ yX9_many.cls ≠ "java/lang/invoke/VarHandle" ∧ (parseMethodDescriptor yX9_many.desc).map (fun d => d.parameters.length) = some 1 := by decide +kernel
def b_X9_grams_46 (k5 : Nat → Int32 → Int32 → Int32 → Int32 → zz_M → Option (Int32 × zz_M)) (a0 : Nat) (x1 : Int32) (x2 : Int32) (x4 : Int32) (st0 : Int32) (st1 : Int32) (M : zz_M) : Option (Int32 × zz_M) := zz_w (st1 + st0) (fun x3_8 => zz_w (x4 + (1 : Int32)) (fun x4_9 => k5 a0 x1 x2 x3_8 x4_9 M))
set_option maxRecDepth 100000 in
set_option maxHeartbeats 4000000 in
theorem wb_X9_grams_46 {p : Program} {l : Launch} {e : Env} {s : State} {m : MethodId} {args : Array Value} {below : List Frame} {meth : Method} {c : Code} {E : zz_E} (C : zz_C E RX9 cX9_grams 6 wsX9_grams p s m args meth c) (hr : meth.sig.returnType = (some .int)) {k5 : Nat → Int32 → Int32 → Int32 → Int32 → zz_M → Option (Int32 × zz_M)} (hk5 : ∀ (a0 : Nat) (x1 : Int32) (x2 : Int32) (x3 : Int32) (x4 : Int32) (ha0 : zz_sh a0 = 9) (M : zz_M) (ls : Array Slot), lv_has ls 6 [(0, .ref (E.1 + a0)), (1, .int x1), (2, .int x2), (3, .int x3), (4, .int x4)] → zz_Z E p l e (zz_rm 3) s m args below meth c (zz_Q (zz_pi E) E below args s) (k5 a0 x1 x2 x3 x4 M) M (F0 m 5 ls [])) : ∀ (a0 : Nat) (x1 : Int32) (x2 : Int32) (x4 : Int32) (st0 : Int32) (st1 : Int32) (ha0 : zz_sh a0 = 9) (M : zz_M) (ls : Array Slot), lv_has ls 6 [(0, .ref (E.1 + a0)), (1, .int x1), (2, .int x2), (4, .int x4)] → zz_Z E p l e (zz_rm 3) s m args below meth c (zz_Q (zz_pi E) E below args s) (b_X9_grams_46 k5 a0 x1 x2 x4 st0 st1 M) M (F0 m 46 ls [.int st0, .int st1]) := by
  intro a0 x1 x2 x4 st0 st1 ha0 M ls hl
  unfold b_X9_grams_46
  refine zz_iadd C dX9_grams_46 ?_
  refine zz_istore_n C (fun x3_8 => [(3, .int x3_8), (0, .ref (E.1 + a0)), (1, .int x1), (2, .int x2), (4, .int x4)]) dX9_grams_47 rfl hl (by decide) (fun _ => rfl) (fun x3_8 ls hl => ?_)
  refine zz_iinc (k9 := 4) (d := 1) C (fun x4_9 => [(4, .int x4_9), (3, .int x3_8), (0, .ref (E.1 + a0)), (1, .int x1), (2, .int x2)]) dX9_grams_48 hl rfl (by decide) (by decide) (fun _ => rfl) (fun x4_9 ls hl => ?_)
  refine zz_goto (tgt := 5) C dX9_grams_51 (by decide) ?_
  exact hk5 a0 x1 x2 x3_8 x4_9 ha0 M ls (lv_sub hl [2, 3, 4, 1, 0] rfl)
def b_X9_grams_5 : Nat → Nat → Int32 → Int32 → Int32 → Int32 → zz_M → Option (Int32 × zz_M)
  | 0 => fun _ _ _ _ _ _ => none
  | n + 1 => fun a0 x1 x2 x3 x4 M => zz_bd (f_X9_many a0 x1 M) (fun r_1 M_2 => (if r_1 ≤ x4 then some (x3, M_2) else zz_bd (f_X9_layerOf a0 x1 x4 M_2) (fun r_4 M_5 => (if 0 ≤ r_4 then (if x2 = 0 then b_X9_grams_46 (b_X9_grams_5 n) a0 x1 x2 x4 r_4 x3 M_5 else b_X9_grams_46 (b_X9_grams_5 n) a0 x1 x2 x4 (0 : Int32) x3 M_5) else b_X9_grams_46 (b_X9_grams_5 n) a0 x1 x2 x4 (-r_4) x3 M_5))))
set_option maxRecDepth 100000 in
set_option maxHeartbeats 4000000 in
theorem wb_X9_grams_5 {p : Program} {l : Launch} {e : Env} {s : State} {m : MethodId} {args : Array Value} {below : List Frame} {meth : Method} {c : Code} {E : zz_E} (C : zz_C E RX9 cX9_grams 6 wsX9_grams p s m args meth c) (hr : meth.sig.returnType = (some .int)) : ∀ (n : Nat) (a0 : Nat) (x1 : Int32) (x2 : Int32) (x3 : Int32) (x4 : Int32) (ha0 : zz_sh a0 = 9) (M : zz_M) (ls : Array Slot), lv_has ls 6 [(0, .ref (E.1 + a0)), (1, .int x1), (2, .int x2), (3, .int x3), (4, .int x4)] → zz_Z E p l e (zz_rm 3) s m args below meth c (zz_Q (zz_pi E) E below args s) (b_X9_grams_5 n a0 x1 x2 x3 x4 M) M (F0 m 5 ls []) := by
  intro n
  induction n with
  | zero => intro a0 x1 x2 x3 x4 ha0 M ls hl; exact zz_none
  | succ n ih =>
    intro a0 x1 x2 x3 x4 ha0 M ls hl
    rw [b_X9_grams_5]
    refine zz_iload C dX9_grams_5 (lv_at hl 4 rfl) ?_
    refine zz_aload_n C dX9_grams_7 rfl (lv_at hl 0 rfl) ?_
    refine zz_iload_n C dX9_grams_8 rfl (lv_at hl 1 rfl) ?_
    refine zz_callVi (As := [.int x1]) (rest := [.int x4]) C (m_X9_many l E a0 x1 ha0 M) (cwV 1 C.1.2.2.2.2 gX9_grams_X9_many rfl rfl rfl hdV_X9_many ⟨Nat.le_of_ble_eq_true rfl, Nat.le_of_ble_eq_true rfl⟩) (zz_lt ha0 (by decide)) (zz_c9 ha0) rfl rfl hl.1 rfl (Nat.le_of_ble_eq_true rfl) dX9_grams_9 (fun r_1 M_2 => ?_)
    refine zz_icmp_ge (tgt := 54) C dX9_grams_12 (by decide) (fun c_3 => ?_) (fun c_3 => ?_)
    · refine zz_iload_n C dX9_grams_54 rfl (lv_at hl 3 rfl) ?_
      exact zz_iret C hr dX9_grams_55
    · refine zz_aload_n C dX9_grams_15 rfl (lv_at hl 0 rfl) ?_
      refine zz_iload_n C dX9_grams_16 rfl (lv_at hl 1 rfl) ?_
      refine zz_iload C dX9_grams_17 (lv_at hl 4 rfl) ?_
      refine zz_callVi (As := [.int x1, .int x4]) (rest := []) C (m_X9_layerOf l E a0 x1 x4 ha0 M_2) (cwV 2 C.1.2.2.2.2 gX9_grams_X9_layerOf rfl rfl rfl hdV_X9_layerOf ⟨Nat.le_of_ble_eq_true rfl, Nat.le_of_ble_eq_true rfl⟩) (zz_lt ha0 (by decide)) (zz_c9 ha0) rfl rfl hl.1 rfl (Nat.le_of_ble_eq_true rfl) dX9_grams_19 (fun r_4 M_5 => ?_)
      refine zz_istored (lv' := [(5, .int r_4), (0, .ref (E.1 + a0)), (1, .int x1), (2, .int x2), (3, .int x3), (4, .int x4)]) C dX9_grams_22 hl (by decide) rfl (fun ls hl => ?_)
      refine zz_iload_n C dX9_grams_24 rfl (lv_at hl 4 rfl) ?_
      refine zz_iload C dX9_grams_25 (lv_at hl 0 rfl) ?_
      refine zz_if_ge (tgt := 36) C dX9_grams_27 (by decide) (fun c_6 => ?_) (fun c_6 => ?_)
      · refine zz_iload_n C dX9_grams_36 rfl (lv_at hl 3 rfl) ?_
        refine zz_if_eq (tgt := 44) C dX9_grams_37 (by decide) (fun c_7 => ?_) (fun c_7 => ?_)
        · refine zz_iload C dX9_grams_44 (lv_at hl 0 rfl) ?_
          exact wb_X9_grams_46 C hr ih a0 x1 x2 x4 r_4 x3 ha0 M_5 ls (lv_sub hl [1, 2, 3, 5] rfl)
        · refine zz_iconst (v := 0) C dX9_grams_40 (by decide) ?_
          refine zz_goto (tgt := 46) C dX9_grams_41 (by decide) ?_
          exact wb_X9_grams_46 C hr ih a0 x1 x2 x4 (0 : Int32) x3 ha0 M_5 ls (lv_sub hl [1, 2, 3, 5] rfl)
      · refine zz_iload C dX9_grams_30 (lv_at hl 0 rfl) ?_
        refine zz_ineg C dX9_grams_32 ?_
        refine zz_goto (tgt := 46) C dX9_grams_33 (by decide) ?_
        exact wb_X9_grams_46 C hr ih a0 x1 x2 x4 (-r_4) x3 ha0 M_5 ls (lv_sub hl [1, 2, 3, 5] rfl)
def f_X9_grams (a0 : Nat) (x1 : Int32) (x2 : Int32) (M : zz_M) : Option (Int32 × zz_M) := b_X9_grams_5  zz_fuel a0 x1 x2 (0 : Int32) (0 : Int32) M
set_option maxRecDepth 100000 in
set_option maxHeartbeats 4000000 in
theorem m_X9_grams (l : Launch) (E : zz_E) (a0 : Nat) (x1 : Int32) (x2 : Int32) (h0 : zz_sh a0 = 9) (M : zz_M) : zz_Met (zz_pi E) l yX9_grams wsX9_grams 3 E [.ref (E.1 + a0), .int x1, .int x2] M (f_X9_grams a0 x1 x2 M) := by
  refine zz_met (cc := cX9_grams) (nL := 6) (ret := (some .int)) (by decide) rfl (Nat.le_of_ble_eq_true rfl) ?_
  intro p e s m below meth c C hr ls hl
  have C : zz_C E RX9 cX9_grams 6 wsX9_grams p s m [.ref (E.1 + a0), .int x1, .int x2].toArray meth c := C
  have hl : lv_has ls 6 [(0, .ref (E.1 + a0)), (1, .int x1), (2, .int x2)] := hl
  unfold f_X9_grams
  refine zz_iconst (v := 0) C dX9_grams_0 (by decide) ?_
  refine zz_istored_n (lv' := [(3, .int (0 : Int32)), (0, .ref (E.1 + a0)), (1, .int x1), (2, .int x2)]) C dX9_grams_1 rfl hl (by decide) rfl (fun ls hl => ?_)
  refine zz_iconst (v := 0) C dX9_grams_2 (by decide) ?_
  refine zz_istored (lv' := [(4, .int (0 : Int32)), (3, .int (0 : Int32)), (0, .ref (E.1 + a0)), (1, .int x1), (2, .int x2)]) C dX9_grams_3 hl (by decide) rfl (fun ls hl => ?_)
  exact wb_X9_grams_5 C hr  zz_fuel a0 x1 x2 (0 : Int32) (0 : Int32) h0 M ls (lv_sub hl [2, 3, 4, 1, 0] rfl)
-- X9_burnsAs ('X9', 'burnsAs', '(II)I')
def f_X9_burnsAs (x0 : Int32) (x1 : Int32) (M : zz_M) : Option (Int32 × zz_M) := (if x0 = (1 : Int32) then some ((x1 / (3 : Int32)), M) else (if x0 = (2 : Int32) then some ((x1 + (x1 / (10 : Int32))), M) else (if x0 = (3 : Int32) then (if (60 : Int32) ≤ x1 then some ((60 : Int32), M) else some (x1, M)) else (if x0 = (4 : Int32) then some (((x1 + (x1 / (10 : Int32))) + (30 : Int32)), M) else (if x0 = (5 : Int32) then some ((x1 / (3 : Int32)), M) else some (x1, M))))))
set_option maxRecDepth 100000 in
set_option maxHeartbeats 4000000 in
theorem m_X9_burnsAs (l : Launch) (E : zz_E) (x0 : Int32) (x1 : Int32)  (M : zz_M) : zz_Met (zz_pi E) l yX9_burnsAs wsX9_burnsAs 1 E [.int x0, .int x1] M (f_X9_burnsAs x0 x1 M) := by
  refine zz_met (cc := cX9_burnsAs) (nL := 2) (ret := (some .int)) (by decide) rfl (Nat.le_of_ble_eq_true rfl) ?_
  intro p e s m below meth c C hr ls hl
  have C : zz_C E RX9 cX9_burnsAs 2 wsX9_burnsAs p s m [.int x0, .int x1].toArray meth c := C
  have hl : lv_has ls 2 [(0, .int x0), (1, .int x1)] := hl
  unfold f_X9_burnsAs
  refine zz_iload_n C dX9_burnsAs_0 rfl (lv_at hl 0 rfl) ?_
  refine zz_ite (fun c_1 => ?_) (fun c_1 => ?_)
  · refine zz_tabIn (tgt := 36) C dX9_burnsAs_1 (by rw [c_1]; decide) (by rw [c_1]; decide) (by rw [c_1]; rfl) (by decide) ?_
    refine zz_iload_n C dX9_burnsAs_36 rfl (lv_at hl 1 rfl) ?_
    refine zz_iconst (v := 3) C dX9_burnsAs_37 (by decide) ?_
    refine zz_idivc C dX9_burnsAs_38 (by decide) ?_
    exact zz_iret C hr dX9_burnsAs_39
  · refine zz_ite (fun c_2 => ?_) (fun c_2 => ?_)
    · refine zz_tabIn (tgt := 40) C dX9_burnsAs_1 (by rw [c_2]; decide) (by rw [c_2]; decide) (by rw [c_2]; rfl) (by decide) ?_
      refine zz_iload_n C dX9_burnsAs_40 rfl (lv_at hl 1 rfl) ?_
      refine zz_iload_n C dX9_burnsAs_41 rfl (lv_at hl 1 rfl) ?_
      refine zz_bipush (v := 10) C dX9_burnsAs_42 (by decide) ?_
      refine zz_idivc C dX9_burnsAs_44 (by decide) ?_
      refine zz_iadd C dX9_burnsAs_45 ?_
      exact zz_iret C hr dX9_burnsAs_46
    · refine zz_ite (fun c_3 => ?_) (fun c_3 => ?_)
      · refine zz_tabIn (tgt := 57) C dX9_burnsAs_1 (by rw [c_3]; decide) (by rw [c_3]; decide) (by rw [c_3]; rfl) (by decide) ?_
        refine zz_iload_n C dX9_burnsAs_57 rfl (lv_at hl 1 rfl) ?_
        refine zz_bipush (v := 60) C dX9_burnsAs_58 (by decide) ?_
        refine zz_icmp_ge (tgt := 67) C dX9_burnsAs_60 (by decide) (fun c_4 => ?_) (fun c_4 => ?_)
        · refine zz_bipush (v := 60) C dX9_burnsAs_67 (by decide) ?_
          exact zz_iret C hr dX9_burnsAs_69
        · refine zz_iload_n C dX9_burnsAs_63 rfl (lv_at hl 1 rfl) ?_
          refine zz_goto (tgt := 69) C dX9_burnsAs_64 (by decide) ?_
          exact zz_iret C hr dX9_burnsAs_69
      · refine zz_ite (fun c_5 => ?_) (fun c_5 => ?_)
        · refine zz_tabIn (tgt := 47) C dX9_burnsAs_1 (by rw [c_5]; decide) (by rw [c_5]; decide) (by rw [c_5]; rfl) (by decide) ?_
          refine zz_iload_n C dX9_burnsAs_47 rfl (lv_at hl 1 rfl) ?_
          refine zz_iload_n C dX9_burnsAs_48 rfl (lv_at hl 1 rfl) ?_
          refine zz_bipush (v := 10) C dX9_burnsAs_49 (by decide) ?_
          refine zz_idivc C dX9_burnsAs_51 (by decide) ?_
          refine zz_iadd C dX9_burnsAs_52 ?_
          refine zz_bipush (v := 30) C dX9_burnsAs_53 (by decide) ?_
          refine zz_iadd C dX9_burnsAs_55 ?_
          exact zz_iret C hr dX9_burnsAs_56
        · refine zz_ite (fun c_6 => ?_) (fun c_6 => ?_)
          · refine zz_tabIn (tgt := 36) C dX9_burnsAs_1 (by rw [c_6]; decide) (by rw [c_6]; decide) (by rw [c_6]; rfl) (by decide) ?_
            refine zz_iload_n C dX9_burnsAs_36 rfl (lv_at hl 1 rfl) ?_
            refine zz_iconst (v := 3) C dX9_burnsAs_37 (by decide) ?_
            refine zz_idivc C dX9_burnsAs_38 (by decide) ?_
            exact zz_iret C hr dX9_burnsAs_39
          · refine zz_tabOut (tgt := 70) C dX9_burnsAs_1 (by have q1 : x0.toInt ≠ 1 := zz_ne c_1; have q2 : x0.toInt ≠ 2 := zz_ne c_2; have q3 : x0.toInt ≠ 3 := zz_ne c_3; have q4 : x0.toInt ≠ 4 := zz_ne c_5; have q5 : x0.toInt ≠ 5 := zz_ne c_6; omega) (by decide) ?_
            refine zz_iload_n C dX9_burnsAs_70 rfl (lv_at hl 1 rfl) ?_
            exact zz_iret C hr dX9_burnsAs_71
-- X9_burnsOf ('X9', 'burnsOf', '(I)I')
theorem hdS_X9_burnsAs : yX9_burnsAs.cls ≠ "java/lang/invoke/MethodHandle" ∧ yX9_burnsAs.cls ≠ "java/lang/invoke/VarHandle" ∧ (parseMethodDescriptor yX9_burnsAs.desc).map (fun d => d.parameters.length) = some 2 := by decide +kernel
theorem hdV_X9_grams : yX9_grams.cls = RX9 ∧ yX9_grams.cls ≠ "java/lang/invoke/MethodHandle" ∧ yX9_grams.cls ≠ "java/lang/invoke/VarHandle" ∧ (parseMethodDescriptor yX9_grams.desc).map (fun d => d.parameters.length) = some 2 := by decide +kernel
theorem hdV_X9_kindOf : yX9_kindOf.cls = RX9 ∧ yX9_kindOf.cls ≠ "java/lang/invoke/MethodHandle" ∧ yX9_kindOf.cls ≠ "java/lang/invoke/VarHandle" ∧ (parseMethodDescriptor yX9_kindOf.desc).map (fun d => d.parameters.length) = some 1 := by decide +kernel
def f_X9_burnsOf (a0 : Nat) (x1 : Int32) (M : zz_M) : Option (Int32 × zz_M) := zz_bd (f_X9_grams a0 x1 (1 : Int32) M) (fun r_1 M_2 => zz_bd (f_X9_kindOf a0 x1 M_2) (fun r_3 M_4 => zz_bd (f_X9_grams a0 x1 (0 : Int32) M_4) (fun r_5 M_6 => zz_bd (f_X9_burnsAs r_3 (((3 : Int32) * (r_5 - r_1)) + ((5 : Int32) * r_1)) M_6) (fun r_7 M_8 => some (r_7, M_8)))))
set_option maxRecDepth 100000 in
set_option maxHeartbeats 4000000 in
theorem m_X9_burnsOf (l : Launch) (E : zz_E) (a0 : Nat) (x1 : Int32) (h0 : zz_sh a0 = 9) (M : zz_M) : zz_Met (zz_pi E) l yX9_burnsOf wsX9_burnsOf 4 E [.ref (E.1 + a0), .int x1] M (f_X9_burnsOf a0 x1 M) := by
  refine zz_met (cc := cX9_burnsOf) (nL := 3) (ret := (some .int)) (by decide) rfl (Nat.le_of_ble_eq_true rfl) ?_
  intro p e s m below meth c C hr ls hl
  have C : zz_C E RX9 cX9_burnsOf 3 wsX9_burnsOf p s m [.ref (E.1 + a0), .int x1].toArray meth c := C
  have hl : lv_has ls 3 [(0, .ref (E.1 + a0)), (1, .int x1)] := hl
  unfold f_X9_burnsOf
  refine zz_aload_n C dX9_burnsOf_0 rfl (lv_at hl 0 rfl) ?_
  refine zz_iload_n C dX9_burnsOf_1 rfl (lv_at hl 1 rfl) ?_
  refine zz_iconst (v := 1) C dX9_burnsOf_2 (by decide) ?_
  refine zz_callVi (As := [.int x1, .int (1 : Int32)]) (rest := []) C (m_X9_grams l E a0 x1 (1 : Int32) h0 M) (cwV 2 C.1.2.2.2.2 gX9_burnsOf_X9_grams rfl rfl rfl hdV_X9_grams ⟨Nat.le_of_ble_eq_true rfl, Nat.le_of_ble_eq_true rfl⟩) (zz_lt h0 (by decide)) (zz_c9 h0) rfl rfl hl.1 rfl (Nat.le_of_ble_eq_true rfl) dX9_burnsOf_3 (fun r_1 M_2 => ?_)
  refine zz_istored_n (lv' := [(2, .int r_1), (0, .ref (E.1 + a0)), (1, .int x1)]) C dX9_burnsOf_6 rfl hl (by decide) rfl (fun ls hl => ?_)
  refine zz_aload_n C dX9_burnsOf_7 rfl (lv_at hl 1 rfl) ?_
  refine zz_iload_n C dX9_burnsOf_8 rfl (lv_at hl 2 rfl) ?_
  refine zz_callVi (As := [.int x1]) (rest := []) C (m_X9_kindOf l E a0 x1 h0 M_2) (cwV 1 C.1.2.2.2.2 gX9_burnsOf_X9_kindOf rfl rfl rfl hdV_X9_kindOf ⟨Nat.le_of_ble_eq_true rfl, Nat.le_of_ble_eq_true rfl⟩) (zz_lt h0 (by decide)) (zz_c9 h0) rfl rfl hl.1 rfl (Nat.le_of_ble_eq_true rfl) dX9_burnsOf_9 (fun r_3 M_4 => ?_)
  refine zz_iconst (v := 3) C dX9_burnsOf_12 (by decide) ?_
  refine zz_aload_n C dX9_burnsOf_13 rfl (lv_at hl 1 rfl) ?_
  refine zz_iload_n C dX9_burnsOf_14 rfl (lv_at hl 2 rfl) ?_
  refine zz_iconst (v := 0) C dX9_burnsOf_15 (by decide) ?_
  refine zz_callVi (As := [.int x1, .int (0 : Int32)]) (rest := [.int (3 : Int32), .int r_3]) C (m_X9_grams l E a0 x1 (0 : Int32) h0 M_4) (cwV 2 C.1.2.2.2.2 gX9_burnsOf_X9_grams rfl rfl rfl hdV_X9_grams ⟨Nat.le_of_ble_eq_true rfl, Nat.le_of_ble_eq_true rfl⟩) (zz_lt h0 (by decide)) (zz_c9 h0) rfl rfl hl.1 rfl (Nat.le_of_ble_eq_true rfl) dX9_burnsOf_16 (fun r_5 M_6 => ?_)
  refine zz_iload_n C dX9_burnsOf_19 rfl (lv_at hl 0 rfl) ?_
  refine zz_isub C dX9_burnsOf_20 ?_
  refine zz_imul C dX9_burnsOf_21 ?_
  refine zz_iconst (v := 5) C dX9_burnsOf_22 (by decide) ?_
  refine zz_iload_n C dX9_burnsOf_23 rfl (lv_at hl 0 rfl) ?_
  refine zz_imul C dX9_burnsOf_24 ?_
  refine zz_iadd C dX9_burnsOf_25 ?_
  refine zz_callSi (As := [.int r_3, .int (((3 : Int32) * (r_5 - r_1)) + ((5 : Int32) * r_1))]) (rest := []) C (m_X9_burnsAs l E r_3 (((3 : Int32) * (r_5 - r_1)) + ((5 : Int32) * r_1))  M_6) (va_cwS 2 C.1.2.2.2.2 gX9_burnsOf_X9_burnsAs rfl rfl rfl hdS_X9_burnsAs ⟨Nat.le_of_ble_eq_true rfl, Nat.le_of_ble_eq_true rfl⟩) rfl hl.1 rfl (Nat.le_of_ble_eq_true rfl) dX9_burnsOf_26 (fun r_7 M_8 => ?_)
  exact zz_iret C hr dX9_burnsOf_29
-- X9_of ('X9', 'of', '(II)I')
theorem hdV_X9_burnsOf : yX9_burnsOf.cls = RX9 ∧ yX9_burnsOf.cls ≠ "java/lang/invoke/MethodHandle" ∧ yX9_burnsOf.cls ≠ "java/lang/invoke/VarHandle" ∧ (parseMethodDescriptor yX9_burnsOf.desc).map (fun d => d.parameters.length) = some 1 := by decide +kernel
theorem hdV_X9_isCandle : yX9_isCandle.cls = RX9 ∧ yX9_isCandle.cls ≠ "java/lang/invoke/MethodHandle" ∧ yX9_isCandle.cls ≠ "java/lang/invoke/VarHandle" ∧ (parseMethodDescriptor yX9_isCandle.desc).map (fun d => d.parameters.length) = some 1 := by decide +kernel
def f_X9_of (a0 : Nat) (x1 : Int32) (x2 : Int32) (M : zz_M) : Option (Int32 × zz_M) := zz_bd (f_X9_isCandle a0 x1 M) (fun r_1 M_2 => (if r_1 = 0 then zz_bd (f_X9_finds a0 (-1000000001 : Int32) M_2) (fun r_21 M_22 => some (r_21, M_22)) else (if x2 = (0 : Int32) then zz_bd (f_X9_kindOf a0 x1 M_2) (fun r_5 M_6 => some (r_5, M_6)) else (if x2 = (1 : Int32) then zz_bd (f_X9_many a0 x1 M_2) (fun r_8 M_9 => some (r_8, M_9)) else (if x2 = (2 : Int32) then zz_bd (f_X9_grams a0 x1 (0 : Int32) M_2) (fun r_11 M_12 => some (r_11, M_12)) else (if x2 = (3 : Int32) then zz_bd (f_X9_grams a0 x1 (1 : Int32) M_2) (fun r_14 M_15 => some (r_14, M_15)) else (if x2 = (4 : Int32) then zz_bd (f_X9_burnsOf a0 x1 M_2) (fun r_17 M_18 => some (r_17, M_18)) else zz_bd (f_X9_finds a0 (-1000000001 : Int32) M_2) (fun r_19 M_20 => some (r_19, M_20)))))))))
set_option maxRecDepth 100000 in
set_option maxHeartbeats 4000000 in
theorem m_X9_of (l : Launch) (E : zz_E) (a0 : Nat) (x1 : Int32) (x2 : Int32) (h0 : zz_sh a0 = 9) (M : zz_M) : zz_Met (zz_pi E) l yX9_of wsX9_of 5 E [.ref (E.1 + a0), .int x1, .int x2] M (f_X9_of a0 x1 x2 M) := by
  refine zz_met (cc := cX9_of) (nL := 3) (ret := (some .int)) (by decide) rfl (Nat.le_of_ble_eq_true rfl) ?_
  intro p e s m below meth c C hr ls hl
  have C : zz_C E RX9 cX9_of 3 wsX9_of p s m [.ref (E.1 + a0), .int x1, .int x2].toArray meth c := C
  have hl : lv_has ls 3 [(0, .ref (E.1 + a0)), (1, .int x1), (2, .int x2)] := hl
  unfold f_X9_of
  refine zz_aload_n C dX9_of_0 rfl (lv_at hl 0 rfl) ?_
  refine zz_iload_n C dX9_of_1 rfl (lv_at hl 1 rfl) ?_
  refine zz_callVi (As := [.int x1]) (rest := []) C (m_X9_isCandle l E a0 x1 h0 M) (cwV 1 C.1.2.2.2.2 gX9_of_X9_isCandle rfl rfl rfl hdV_X9_isCandle ⟨Nat.le_of_ble_eq_true rfl, Nat.le_of_ble_eq_true rfl⟩) (zz_lt h0 (by decide)) (zz_c9 h0) rfl rfl hl.1 rfl (Nat.le_of_ble_eq_true rfl) dX9_of_2 (fun r_1 M_2 => ?_)
  refine zz_if_ne (tgt := 15) C dX9_of_5 (by decide) (fun c_3 => ?_) (fun c_3 => ?_)
  · refine zz_aload_n C dX9_of_8 rfl (lv_at hl 0 rfl) ?_
    refine zz_ldc (v := -1000000001) C (List.mem_of_getElem? (i := 1) rfl) dX9_of_9 ?_
    refine zz_callVi (As := [.int (-1000000001 : Int32)]) (rest := []) C (m_X9_finds l E a0 (-1000000001 : Int32) h0 M_2) (cwV 1 C.1.2.2.2.2 gX9_of_X9_finds rfl rfl rfl hdV_X9_finds ⟨Nat.le_of_ble_eq_true rfl, Nat.le_of_ble_eq_true rfl⟩) (zz_lt h0 (by decide)) (zz_c9 h0) rfl rfl hl.1 rfl (Nat.le_of_ble_eq_true rfl) dX9_of_11 (fun r_21 M_22 => ?_)
    exact zz_iret C hr dX9_of_14
  · refine zz_iload_n C dX9_of_15 rfl (lv_at hl 2 rfl) ?_
    refine zz_ite (fun c_4 => ?_) (fun c_4 => ?_)
    · refine zz_tabIn (tgt := 52) C dX9_of_16 (by rw [c_4]; decide) (by rw [c_4]; decide) (by rw [c_4]; rfl) (by decide) ?_
      refine zz_aload_n C dX9_of_52 rfl (lv_at hl 0 rfl) ?_
      refine zz_iload_n C dX9_of_53 rfl (lv_at hl 1 rfl) ?_
      refine zz_callVi (As := [.int x1]) (rest := []) C (m_X9_kindOf l E a0 x1 h0 M_2) (cwV 1 C.1.2.2.2.2 gX9_of_X9_kindOf rfl rfl rfl hdV_X9_kindOf ⟨Nat.le_of_ble_eq_true rfl, Nat.le_of_ble_eq_true rfl⟩) (zz_lt h0 (by decide)) (zz_c9 h0) rfl rfl hl.1 rfl (Nat.le_of_ble_eq_true rfl) dX9_of_54 (fun r_5 M_6 => ?_)
      exact zz_iret C hr dX9_of_57
    · refine zz_ite (fun c_7 => ?_) (fun c_7 => ?_)
      · refine zz_tabIn (tgt := 58) C dX9_of_16 (by rw [c_7]; decide) (by rw [c_7]; decide) (by rw [c_7]; rfl) (by decide) ?_
        refine zz_aload_n C dX9_of_58 rfl (lv_at hl 0 rfl) ?_
        refine zz_iload_n C dX9_of_59 rfl (lv_at hl 1 rfl) ?_
        refine zz_callVi (As := [.int x1]) (rest := []) C (m_X9_many l E a0 x1 h0 M_2) (cwV 1 C.1.2.2.2.2 gX9_of_X9_many rfl rfl rfl hdV_X9_many ⟨Nat.le_of_ble_eq_true rfl, Nat.le_of_ble_eq_true rfl⟩) (zz_lt h0 (by decide)) (zz_c9 h0) rfl rfl hl.1 rfl (Nat.le_of_ble_eq_true rfl) dX9_of_60 (fun r_8 M_9 => ?_)
        exact zz_iret C hr dX9_of_63
      · refine zz_ite (fun c_10 => ?_) (fun c_10 => ?_)
        · refine zz_tabIn (tgt := 64) C dX9_of_16 (by rw [c_10]; decide) (by rw [c_10]; decide) (by rw [c_10]; rfl) (by decide) ?_
          refine zz_aload_n C dX9_of_64 rfl (lv_at hl 0 rfl) ?_
          refine zz_iload_n C dX9_of_65 rfl (lv_at hl 1 rfl) ?_
          refine zz_iconst (v := 0) C dX9_of_66 (by decide) ?_
          refine zz_callVi (As := [.int x1, .int (0 : Int32)]) (rest := []) C (m_X9_grams l E a0 x1 (0 : Int32) h0 M_2) (cwV 2 C.1.2.2.2.2 gX9_of_X9_grams rfl rfl rfl hdV_X9_grams ⟨Nat.le_of_ble_eq_true rfl, Nat.le_of_ble_eq_true rfl⟩) (zz_lt h0 (by decide)) (zz_c9 h0) rfl rfl hl.1 rfl (Nat.le_of_ble_eq_true rfl) dX9_of_67 (fun r_11 M_12 => ?_)
          exact zz_iret C hr dX9_of_70
        · refine zz_ite (fun c_13 => ?_) (fun c_13 => ?_)
          · refine zz_tabIn (tgt := 71) C dX9_of_16 (by rw [c_13]; decide) (by rw [c_13]; decide) (by rw [c_13]; rfl) (by decide) ?_
            refine zz_aload_n C dX9_of_71 rfl (lv_at hl 0 rfl) ?_
            refine zz_iload_n C dX9_of_72 rfl (lv_at hl 1 rfl) ?_
            refine zz_iconst (v := 1) C dX9_of_73 (by decide) ?_
            refine zz_callVi (As := [.int x1, .int (1 : Int32)]) (rest := []) C (m_X9_grams l E a0 x1 (1 : Int32) h0 M_2) (cwV 2 C.1.2.2.2.2 gX9_of_X9_grams rfl rfl rfl hdV_X9_grams ⟨Nat.le_of_ble_eq_true rfl, Nat.le_of_ble_eq_true rfl⟩) (zz_lt h0 (by decide)) (zz_c9 h0) rfl rfl hl.1 rfl (Nat.le_of_ble_eq_true rfl) dX9_of_74 (fun r_14 M_15 => ?_)
            exact zz_iret C hr dX9_of_77
          · refine zz_ite (fun c_16 => ?_) (fun c_16 => ?_)
            · refine zz_tabIn (tgt := 78) C dX9_of_16 (by rw [c_16]; decide) (by rw [c_16]; decide) (by rw [c_16]; rfl) (by decide) ?_
              refine zz_aload_n C dX9_of_78 rfl (lv_at hl 0 rfl) ?_
              refine zz_iload_n C dX9_of_79 rfl (lv_at hl 1 rfl) ?_
              refine zz_callVi (As := [.int x1]) (rest := []) C (m_X9_burnsOf l E a0 x1 h0 M_2) (cwV 1 C.1.2.2.2.2 gX9_of_X9_burnsOf rfl rfl rfl hdV_X9_burnsOf ⟨Nat.le_of_ble_eq_true rfl, Nat.le_of_ble_eq_true rfl⟩) (zz_lt h0 (by decide)) (zz_c9 h0) rfl rfl hl.1 rfl (Nat.le_of_ble_eq_true rfl) dX9_of_80 (fun r_17 M_18 => ?_)
              exact zz_iret C hr dX9_of_83
            · refine zz_tabOut (tgt := 84) C dX9_of_16 (by have q0 : x2.toInt ≠ 0 := zz_ne c_4; have q1 : x2.toInt ≠ 1 := zz_ne c_7; have q2 : x2.toInt ≠ 2 := zz_ne c_10; have q3 : x2.toInt ≠ 3 := zz_ne c_13; have q4 : x2.toInt ≠ 4 := zz_ne c_16; omega) (by decide) ?_
              refine zz_aload_n C dX9_of_84 rfl (lv_at hl 0 rfl) ?_
              refine zz_ldc (v := -1000000001) C (List.mem_of_getElem? (i := 1) rfl) dX9_of_85 ?_
              refine zz_callVi (As := [.int (-1000000001 : Int32)]) (rest := []) C (m_X9_finds l E a0 (-1000000001 : Int32) h0 M_2) (cwV 1 C.1.2.2.2.2 gX9_of_X9_finds rfl rfl rfl hdV_X9_finds ⟨Nat.le_of_ble_eq_true rfl, Nat.le_of_ble_eq_true rfl⟩) (zz_lt h0 (by decide)) (zz_c9 h0) rfl rfl hl.1 rfl (Nat.le_of_ble_eq_true rfl) dX9_of_87 (fun r_19 M_20 => ?_)
              exact zz_iret C hr dX9_of_90
-- X9_layer ('X9', 'layer', '(II)I')
def f_X9_layer (a0 : Nat) (x1 : Int32) (x2 : Int32) (M : zz_M) : Option (Int32 × zz_M) := zz_bd (f_X9_isCandle a0 x1 M) (fun r_1 M_2 => (if r_1 = 0 then zz_bd (f_X9_finds a0 (-1000000001 : Int32) M_2) (fun r_4 M_5 => some (r_4, M_5)) else (if 0 ≤ x2 then zz_bd (f_X9_many a0 x1 M_2) (fun r_7 M_8 => (if r_7 ≤ x2 then zz_bd (f_X9_finds a0 (-1000000004 : Int32) M_8) (fun r_10 M_11 => some (r_10, M_11)) else zz_bd (f_X9_layerOf a0 x1 x2 M_8) (fun r_12 M_13 => some (r_12, M_13)))) else zz_bd (f_X9_finds a0 (-1000000001 : Int32) M_2) (fun r_14 M_15 => some (r_14, M_15)))))
set_option maxRecDepth 100000 in
set_option maxHeartbeats 4000000 in
theorem m_X9_layer (l : Launch) (E : zz_E) (a0 : Nat) (x1 : Int32) (x2 : Int32) (h0 : zz_sh a0 = 9) (M : zz_M) : zz_Met (zz_pi E) l yX9_layer wsX9_layer 3 E [.ref (E.1 + a0), .int x1, .int x2] M (f_X9_layer a0 x1 x2 M) := by
  refine zz_met (cc := cX9_layer) (nL := 3) (ret := (some .int)) (by decide) rfl (Nat.le_of_ble_eq_true rfl) ?_
  intro p e s m below meth c C hr ls hl
  have C : zz_C E RX9 cX9_layer 3 wsX9_layer p s m [.ref (E.1 + a0), .int x1, .int x2].toArray meth c := C
  have hl : lv_has ls 3 [(0, .ref (E.1 + a0)), (1, .int x1), (2, .int x2)] := hl
  unfold f_X9_layer
  refine zz_aload_n C dX9_layer_0 rfl (lv_at hl 0 rfl) ?_
  refine zz_iload_n C dX9_layer_1 rfl (lv_at hl 1 rfl) ?_
  refine zz_callVi (As := [.int x1]) (rest := []) C (m_X9_isCandle l E a0 x1 h0 M) (cwV 1 C.1.2.2.2.2 gX9_layer_X9_isCandle rfl rfl rfl hdV_X9_isCandle ⟨Nat.le_of_ble_eq_true rfl, Nat.le_of_ble_eq_true rfl⟩) (zz_lt h0 (by decide)) (zz_c9 h0) rfl rfl hl.1 rfl (Nat.le_of_ble_eq_true rfl) dX9_layer_2 (fun r_1 M_2 => ?_)
  refine zz_if_eq (tgt := 12) C dX9_layer_5 (by decide) (fun c_3 => ?_) (fun c_3 => ?_)
  · refine zz_aload_n C dX9_layer_12 rfl (lv_at hl 0 rfl) ?_
    refine zz_ldc (v := -1000000001) C (List.mem_of_getElem? (i := 1) rfl) dX9_layer_13 ?_
    refine zz_callVi (As := [.int (-1000000001 : Int32)]) (rest := []) C (m_X9_finds l E a0 (-1000000001 : Int32) h0 M_2) (cwV 1 C.1.2.2.2.2 gX9_layer_X9_finds rfl rfl rfl hdV_X9_finds ⟨Nat.le_of_ble_eq_true rfl, Nat.le_of_ble_eq_true rfl⟩) (zz_lt h0 (by decide)) (zz_c9 h0) rfl rfl hl.1 rfl (Nat.le_of_ble_eq_true rfl) dX9_layer_15 (fun r_4 M_5 => ?_)
    exact zz_iret C hr dX9_layer_18
  · refine zz_iload_n C dX9_layer_8 rfl (lv_at hl 2 rfl) ?_
    refine zz_if_ge (tgt := 19) C dX9_layer_9 (by decide) (fun c_6 => ?_) (fun c_6 => ?_)
    · refine zz_iload_n C dX9_layer_19 rfl (lv_at hl 2 rfl) ?_
      refine zz_aload_n C dX9_layer_20 rfl (lv_at hl 0 rfl) ?_
      refine zz_iload_n C dX9_layer_21 rfl (lv_at hl 1 rfl) ?_
      refine zz_callVi (As := [.int x1]) (rest := [.int x2]) C (m_X9_many l E a0 x1 h0 M_2) (cwV 1 C.1.2.2.2.2 gX9_layer_X9_many rfl rfl rfl hdV_X9_many ⟨Nat.le_of_ble_eq_true rfl, Nat.le_of_ble_eq_true rfl⟩) (zz_lt h0 (by decide)) (zz_c9 h0) rfl rfl hl.1 rfl (Nat.le_of_ble_eq_true rfl) dX9_layer_22 (fun r_7 M_8 => ?_)
      refine zz_icmp_ge (tgt := 37) C dX9_layer_25 (by decide) (fun c_9 => ?_) (fun c_9 => ?_)
      · refine zz_aload_n C dX9_layer_37 rfl (lv_at hl 0 rfl) ?_
        refine zz_ldc (v := -1000000004) C (List.mem_of_getElem? (i := 2) rfl) dX9_layer_38 ?_
        refine zz_callVi (As := [.int (-1000000004 : Int32)]) (rest := []) C (m_X9_finds l E a0 (-1000000004 : Int32) h0 M_8) (cwV 1 C.1.2.2.2.2 gX9_layer_X9_finds rfl rfl rfl hdV_X9_finds ⟨Nat.le_of_ble_eq_true rfl, Nat.le_of_ble_eq_true rfl⟩) (zz_lt h0 (by decide)) (zz_c9 h0) rfl rfl hl.1 rfl (Nat.le_of_ble_eq_true rfl) dX9_layer_40 (fun r_10 M_11 => ?_)
        exact zz_iret C hr dX9_layer_43
      · refine zz_aload_n C dX9_layer_28 rfl (lv_at hl 0 rfl) ?_
        refine zz_iload_n C dX9_layer_29 rfl (lv_at hl 1 rfl) ?_
        refine zz_iload_n C dX9_layer_30 rfl (lv_at hl 2 rfl) ?_
        refine zz_callVi (As := [.int x1, .int x2]) (rest := []) C (m_X9_layerOf l E a0 x1 x2 h0 M_8) (cwV 2 C.1.2.2.2.2 gX9_layer_X9_layerOf rfl rfl rfl hdV_X9_layerOf ⟨Nat.le_of_ble_eq_true rfl, Nat.le_of_ble_eq_true rfl⟩) (zz_lt h0 (by decide)) (zz_c9 h0) rfl rfl hl.1 rfl (Nat.le_of_ble_eq_true rfl) dX9_layer_31 (fun r_12 M_13 => ?_)
        refine zz_goto (tgt := 43) C dX9_layer_34 (by decide) ?_
        exact zz_iret C hr dX9_layer_43
    · refine zz_aload_n C dX9_layer_12 rfl (lv_at hl 0 rfl) ?_
      refine zz_ldc (v := -1000000001) C (List.mem_of_getElem? (i := 1) rfl) dX9_layer_13 ?_
      refine zz_callVi (As := [.int (-1000000001 : Int32)]) (rest := []) C (m_X9_finds l E a0 (-1000000001 : Int32) h0 M_2) (cwV 1 C.1.2.2.2.2 gX9_layer_X9_finds rfl rfl rfl hdV_X9_finds ⟨Nat.le_of_ble_eq_true rfl, Nat.le_of_ble_eq_true rfl⟩) (zz_lt h0 (by decide)) (zz_c9 h0) rfl rfl hl.1 rfl (Nat.le_of_ble_eq_true rfl) dX9_layer_15 (fun r_14 M_15 => ?_)
      exact zz_iret C hr dX9_layer_18
-- X9_turn ('X9', 'turn', '(II)I')
theorem in_X9_turn_X9 : ∀ w ∈ u_ws RX9 TX9 20, w ∈ wsX9_turn := fun _ h => List.mem_cons_of_mem _ (List.mem_append_right _ h)
def f_X9_turn (a0 : Nat) (x1 : Int32) (x2 : Int32) (M : zz_M) : Option (Int32 × zz_M) := zz_bd (f_X9_isCandle a0 x1 M) (fun r_1 M_2 => (if r_1 = 0 then zz_bd (f_X9_finds a0 (-1000000001 : Int32) M_2) (fun r_4 M_5 => some (r_4, M_5)) else zz_bd (f_X9_isKind x2 M_2) (fun r_6 M_7 => (if r_6 = 0 then zz_bd (f_X9_finds a0 (-1000000001 : Int32) M_7) (fun r_14 M_15 => some (r_14, M_15)) else zz_bd (f_X9_kindOf a0 x1 M_7) (fun r_9 M_10 => zz_bd (f_X9_at x1 (0 : Int32) M_10) (fun r_11 M_12 => (if zz_in r_11 440 = true then zz_w (zz_si M_12 130 (zz_n r_11) x2) (fun M_13 => some (r_9, M_13)) else none)))))))
set_option maxRecDepth 100000 in
set_option maxHeartbeats 4000000 in
theorem m_X9_turn (l : Launch) (E : zz_E) (a0 : Nat) (x1 : Int32) (x2 : Int32) (h0 : zz_sh a0 = 9) (M : zz_M) : zz_Met (zz_pi E) l yX9_turn wsX9_turn 3 E [.ref (E.1 + a0), .int x1, .int x2] M (f_X9_turn a0 x1 x2 M) := by
  refine zz_met (cc := cX9_turn) (nL := 4) (ret := (some .int)) (by decide) rfl (Nat.le_of_ble_eq_true rfl) ?_
  intro p e s m below meth c C hr ls hl
  have C : zz_C E RX9 cX9_turn 4 wsX9_turn p s m [.ref (E.1 + a0), .int x1, .int x2].toArray meth c := C
  have hl : lv_has ls 4 [(0, .ref (E.1 + a0)), (1, .int x1), (2, .int x2)] := hl
  unfold f_X9_turn
  refine zz_aload_n C dX9_turn_0 rfl (lv_at hl 0 rfl) ?_
  refine zz_iload_n C dX9_turn_1 rfl (lv_at hl 1 rfl) ?_
  refine zz_callVi (As := [.int x1]) (rest := []) C (m_X9_isCandle l E a0 x1 h0 M) (cwV 1 C.1.2.2.2.2 gX9_turn_X9_isCandle rfl rfl rfl hdV_X9_isCandle ⟨Nat.le_of_ble_eq_true rfl, Nat.le_of_ble_eq_true rfl⟩) (zz_lt h0 (by decide)) (zz_c9 h0) rfl rfl hl.1 rfl (Nat.le_of_ble_eq_true rfl) dX9_turn_2 (fun r_1 M_2 => ?_)
  refine zz_if_eq (tgt := 15) C dX9_turn_5 (by decide) (fun c_3 => ?_) (fun c_3 => ?_)
  · refine zz_aload_n C dX9_turn_15 rfl (lv_at hl 0 rfl) ?_
    refine zz_ldc (v := -1000000001) C (List.mem_of_getElem? (i := 1) rfl) dX9_turn_16 ?_
    refine zz_callVi (As := [.int (-1000000001 : Int32)]) (rest := []) C (m_X9_finds l E a0 (-1000000001 : Int32) h0 M_2) (cwV 1 C.1.2.2.2.2 gX9_turn_X9_finds rfl rfl rfl hdV_X9_finds ⟨Nat.le_of_ble_eq_true rfl, Nat.le_of_ble_eq_true rfl⟩) (zz_lt h0 (by decide)) (zz_c9 h0) rfl rfl hl.1 rfl (Nat.le_of_ble_eq_true rfl) dX9_turn_18 (fun r_4 M_5 => ?_)
    exact zz_iret C hr dX9_turn_21
  · refine zz_iload_n C dX9_turn_8 rfl (lv_at hl 2 rfl) ?_
    refine zz_callSi (As := [.int x2]) (rest := []) C (m_X9_isKind l E x2  M_2) (va_cwS 1 C.1.2.2.2.2 gX9_turn_X9_isKind rfl rfl rfl hdS_X9_isKind ⟨Nat.le_of_ble_eq_true rfl, Nat.le_of_ble_eq_true rfl⟩) rfl hl.1 rfl (Nat.le_of_ble_eq_true rfl) dX9_turn_9 (fun r_6 M_7 => ?_)
    refine zz_if_ne (tgt := 22) C dX9_turn_12 (by decide) (fun c_8 => ?_) (fun c_8 => ?_)
    · refine zz_aload_n C dX9_turn_15 rfl (lv_at hl 0 rfl) ?_
      refine zz_ldc (v := -1000000001) C (List.mem_of_getElem? (i := 1) rfl) dX9_turn_16 ?_
      refine zz_callVi (As := [.int (-1000000001 : Int32)]) (rest := []) C (m_X9_finds l E a0 (-1000000001 : Int32) h0 M_7) (cwV 1 C.1.2.2.2.2 gX9_turn_X9_finds rfl rfl rfl hdV_X9_finds ⟨Nat.le_of_ble_eq_true rfl, Nat.le_of_ble_eq_true rfl⟩) (zz_lt h0 (by decide)) (zz_c9 h0) rfl rfl hl.1 rfl (Nat.le_of_ble_eq_true rfl) dX9_turn_18 (fun r_14 M_15 => ?_)
      exact zz_iret C hr dX9_turn_21
    · refine zz_aload_n C dX9_turn_22 rfl (lv_at hl 0 rfl) ?_
      refine zz_iload_n C dX9_turn_23 rfl (lv_at hl 1 rfl) ?_
      refine zz_callVi (As := [.int x1]) (rest := []) C (m_X9_kindOf l E a0 x1 h0 M_7) (cwV 1 C.1.2.2.2.2 gX9_turn_X9_kindOf rfl rfl rfl hdV_X9_kindOf ⟨Nat.le_of_ble_eq_true rfl, Nat.le_of_ble_eq_true rfl⟩) (zz_lt h0 (by decide)) (zz_c9 h0) rfl rfl hl.1 rfl (Nat.le_of_ble_eq_true rfl) dX9_turn_24 (fun r_9 M_10 => ?_)
      refine zz_istored_n (lv' := [(3, .int r_9), (0, .ref (E.1 + a0)), (1, .int x1), (2, .int x2)]) C dX9_turn_27 rfl hl (by decide) rfl (fun ls hl => ?_)
      refine zz_aload_n C dX9_turn_28 rfl (lv_at hl 1 rfl) ?_
      refine zz_get C (zz_lt h0 (by decide)) (zz_c9 h0) rfl in_X9_turn_X9 0 (by decide) (List.mem_of_getElem? (i := 2) rfl) rfl dX9_turn_29 ?_
      refine zz_iload_n C dX9_turn_32 rfl (lv_at hl 2 rfl) ?_
      refine zz_iconst (v := 0) C dX9_turn_33 (by decide) ?_
      refine zz_callSi (As := [.int x1, .int (0 : Int32)]) (rest := [.ref (E.1 + 130)]) C (m_X9_at l E x1 (0 : Int32)  M_10) (va_cwS 2 C.1.2.2.2.2 gX9_turn_X9_at rfl rfl rfl hdS_X9_at ⟨Nat.le_of_ble_eq_true rfl, Nat.le_of_ble_eq_true rfl⟩) rfl hl.1 rfl (Nat.le_of_ble_eq_true rfl) dX9_turn_34 (fun r_11 M_12 => ?_)
      refine zz_iload_n C dX9_turn_37 rfl (lv_at hl 3 rfl) ?_
      refine zz_iast C (zz_lt (zz_s9_0 h0) (by decide)) (fun _ => zz_c13 (zz_s9_0 h0)) dX9_turn_38 (fun M_13 => ?_)
      refine zz_iload_n C dX9_turn_39 rfl (lv_at hl 0 rfl) ?_
      exact zz_iret C hr dX9_turn_40
-- X9_isUnder ('X9', 'isUnder', '(II)Z')
def b_X9_isUnder_29  (M : zz_M) : Option (Int32 × zz_M) := some ((1 : Int32), M)
set_option maxRecDepth 100000 in
set_option maxHeartbeats 4000000 in
theorem wb_X9_isUnder_29 {p : Program} {l : Launch} {e : Env} {s : State} {m : MethodId} {args : Array Value} {below : List Frame} {meth : Method} {c : Code} {E : zz_E} (C : zz_C E RX9 cX9_isUnder 2 wsX9_isUnder p s m args meth c) (hr : meth.sig.returnType = (some .boolean)) : ∀   (M : zz_M) (ls : Array Slot), lv_has ls 2 [] → zz_Z E p l e (zz_rm 1) s m args below meth c (zz_Q (zz_pi E) E below args s) (b_X9_isUnder_29  M) M (F0 m 29 ls []) := by
  intro   M ls hl
  unfold b_X9_isUnder_29
  refine zz_iconst (v := 1) C dX9_isUnder_29 (by decide) ?_
  refine zz_goto (tgt := 34) C dX9_isUnder_30 (by decide) ?_
  exact zz_zretl C (v := (1 : Int32)) rfl hr dX9_isUnder_34
def b_X9_isUnder_19 (x0 : Int32) (x1 : Int32) (M : zz_M) : Option (Int32 × zz_M) := (if x1 = (1 : Int32) then (if x0 = (5 : Int32) then b_X9_isUnder_29   M else some ((0 : Int32), M)) else some ((0 : Int32), M))
set_option maxRecDepth 100000 in
set_option maxHeartbeats 4000000 in
theorem wb_X9_isUnder_19 {p : Program} {l : Launch} {e : Env} {s : State} {m : MethodId} {args : Array Value} {below : List Frame} {meth : Method} {c : Code} {E : zz_E} (C : zz_C E RX9 cX9_isUnder 2 wsX9_isUnder p s m args meth c) (hr : meth.sig.returnType = (some .boolean)) : ∀ (x0 : Int32) (x1 : Int32)  (M : zz_M) (ls : Array Slot), lv_has ls 2 [(0, .int x0), (1, .int x1)] → zz_Z E p l e (zz_rm 1) s m args below meth c (zz_Q (zz_pi E) E below args s) (b_X9_isUnder_19 x0 x1 M) M (F0 m 19 ls []) := by
  intro x0 x1  M ls hl
  unfold b_X9_isUnder_19
  refine zz_iload_n C dX9_isUnder_19 rfl (lv_at hl 1 rfl) ?_
  refine zz_iconst (v := 1) C dX9_isUnder_20 (by decide) ?_
  refine zz_icmp_ne (tgt := 33) C dX9_isUnder_21 (by decide) (fun c_5 => ?_) (fun c_5 => ?_)
  · refine zz_iload_n C dX9_isUnder_24 rfl (lv_at hl 0 rfl) ?_
    refine zz_iconst (v := 5) C dX9_isUnder_25 (by decide) ?_
    refine zz_icmp_ne (tgt := 33) C dX9_isUnder_26 (by decide) (fun c_6 => ?_) (fun c_6 => ?_)
    · exact wb_X9_isUnder_29 C hr    M ls (lv_sub hl [] rfl)
    · refine zz_iconst (v := 0) C dX9_isUnder_33 (by decide) ?_
      exact zz_zretl C (v := (0 : Int32)) rfl hr dX9_isUnder_34
  · refine zz_iconst (v := 0) C dX9_isUnder_33 (by decide) ?_
    exact zz_zretl C (v := (0 : Int32)) rfl hr dX9_isUnder_34
def f_X9_isUnder (x0 : Int32) (x1 : Int32) (M : zz_M) : Option (Int32 × zz_M) := (if x1 = 0 then b_X9_isUnder_29   M else (if x1 = x0 then b_X9_isUnder_29   M else (if x1 = (2 : Int32) then (if x0 = (4 : Int32) then b_X9_isUnder_29   M else b_X9_isUnder_19  x0 x1 M) else b_X9_isUnder_19  x0 x1 M)))
set_option maxRecDepth 100000 in
set_option maxHeartbeats 4000000 in
theorem m_X9_isUnder (l : Launch) (E : zz_E) (x0 : Int32) (x1 : Int32)  (M : zz_M) : zz_Met (zz_pi E) l yX9_isUnder wsX9_isUnder 1 E [.int x0, .int x1] M (f_X9_isUnder x0 x1 M) := by
  refine zz_met (cc := cX9_isUnder) (nL := 2) (ret := (some .boolean)) (by decide) rfl (Nat.le_of_ble_eq_true rfl) ?_
  intro p e s m below meth c C hr ls hl
  have C : zz_C E RX9 cX9_isUnder 2 wsX9_isUnder p s m [.int x0, .int x1].toArray meth c := C
  have hl : lv_has ls 2 [(0, .int x0), (1, .int x1)] := hl
  unfold f_X9_isUnder
  refine zz_iload_n C dX9_isUnder_0 rfl (lv_at hl 1 rfl) ?_
  refine zz_if_eq (tgt := 29) C dX9_isUnder_1 (by decide) (fun c_1 => ?_) (fun c_1 => ?_)
  · exact wb_X9_isUnder_29 C hr    M ls (lv_sub hl [] rfl)
  · refine zz_iload_n C dX9_isUnder_4 rfl (lv_at hl 1 rfl) ?_
    refine zz_iload_n C dX9_isUnder_5 rfl (lv_at hl 0 rfl) ?_
    refine zz_icmp_eq (tgt := 29) C dX9_isUnder_6 (by decide) (fun c_2 => ?_) (fun c_2 => ?_)
    · exact wb_X9_isUnder_29 C hr    M ls (lv_sub hl [] rfl)
    · refine zz_iload_n C dX9_isUnder_9 rfl (lv_at hl 1 rfl) ?_
      refine zz_iconst (v := 2) C dX9_isUnder_10 (by decide) ?_
      refine zz_icmp_ne (tgt := 19) C dX9_isUnder_11 (by decide) (fun c_3 => ?_) (fun c_3 => ?_)
      · refine zz_iload_n C dX9_isUnder_14 rfl (lv_at hl 0 rfl) ?_
        refine zz_iconst (v := 4) C dX9_isUnder_15 (by decide) ?_
        refine zz_icmp_eq (tgt := 29) C dX9_isUnder_16 (by decide) (fun c_4 => ?_) (fun c_4 => ?_)
        · exact wb_X9_isUnder_29 C hr    M ls (lv_sub hl [] rfl)
        · exact wb_X9_isUnder_19 C hr  x0 x1  M ls (lv_sub hl [0, 1] rfl)
      · exact wb_X9_isUnder_19 C hr  x0 x1  M ls (lv_sub hl [0, 1] rfl)
-- X9_as ('X9', 'as', '(II)I')
theorem hdS_X9_isUnder : yX9_isUnder.cls ≠ "java/lang/invoke/MethodHandle" ∧ yX9_isUnder.cls ≠ "java/lang/invoke/VarHandle" ∧ (parseMethodDescriptor yX9_isUnder.desc).map (fun d => d.parameters.length) = some 2 := by decide +kernel
def f_X9_as (a0 : Nat) (x1 : Int32) (x2 : Int32) (M : zz_M) : Option (Int32 × zz_M) := zz_bd (f_X9_isCandle a0 x1 M) (fun r_1 M_2 => (if r_1 = 0 then zz_bd (f_X9_finds a0 (-1000000001 : Int32) M_2) (fun r_4 M_5 => some (r_4, M_5)) else zz_bd (f_X9_isKind x2 M_2) (fun r_6 M_7 => (if r_6 = 0 then zz_bd (f_X9_finds a0 (-1000000001 : Int32) M_7) (fun r_18 M_19 => some (r_18, M_19)) else zz_bd (f_X9_kindOf a0 x1 M_7) (fun r_9 M_10 => zz_bd (f_X9_isUnder r_9 x2 M_10) (fun r_11 M_12 => (if r_11 = 0 then zz_bd (f_X9_finds a0 (-1000000003 : Int32) M_12) (fun r_14 M_15 => some (r_14, M_15)) else zz_bd (f_X9_burnsOf a0 x1 M_12) (fun r_16 M_17 => some (r_16, M_17)))))))))
set_option maxRecDepth 100000 in
set_option maxHeartbeats 4000000 in
theorem m_X9_as (l : Launch) (E : zz_E) (a0 : Nat) (x1 : Int32) (x2 : Int32) (h0 : zz_sh a0 = 9) (M : zz_M) : zz_Met (zz_pi E) l yX9_as wsX9_as 5 E [.ref (E.1 + a0), .int x1, .int x2] M (f_X9_as a0 x1 x2 M) := by
  refine zz_met (cc := cX9_as) (nL := 3) (ret := (some .int)) (by decide) rfl (Nat.le_of_ble_eq_true rfl) ?_
  intro p e s m below meth c C hr ls hl
  have C : zz_C E RX9 cX9_as 3 wsX9_as p s m [.ref (E.1 + a0), .int x1, .int x2].toArray meth c := C
  have hl : lv_has ls 3 [(0, .ref (E.1 + a0)), (1, .int x1), (2, .int x2)] := hl
  unfold f_X9_as
  refine zz_aload_n C dX9_as_0 rfl (lv_at hl 0 rfl) ?_
  refine zz_iload_n C dX9_as_1 rfl (lv_at hl 1 rfl) ?_
  refine zz_callVi (As := [.int x1]) (rest := []) C (m_X9_isCandle l E a0 x1 h0 M) (cwV 1 C.1.2.2.2.2 gX9_as_X9_isCandle rfl rfl rfl hdV_X9_isCandle ⟨Nat.le_of_ble_eq_true rfl, Nat.le_of_ble_eq_true rfl⟩) (zz_lt h0 (by decide)) (zz_c9 h0) rfl rfl hl.1 rfl (Nat.le_of_ble_eq_true rfl) dX9_as_2 (fun r_1 M_2 => ?_)
  refine zz_if_eq (tgt := 15) C dX9_as_5 (by decide) (fun c_3 => ?_) (fun c_3 => ?_)
  · refine zz_aload_n C dX9_as_15 rfl (lv_at hl 0 rfl) ?_
    refine zz_ldc (v := -1000000001) C (List.mem_of_getElem? (i := 1) rfl) dX9_as_16 ?_
    refine zz_callVi (As := [.int (-1000000001 : Int32)]) (rest := []) C (m_X9_finds l E a0 (-1000000001 : Int32) h0 M_2) (cwV 1 C.1.2.2.2.2 gX9_as_X9_finds rfl rfl rfl hdV_X9_finds ⟨Nat.le_of_ble_eq_true rfl, Nat.le_of_ble_eq_true rfl⟩) (zz_lt h0 (by decide)) (zz_c9 h0) rfl rfl hl.1 rfl (Nat.le_of_ble_eq_true rfl) dX9_as_18 (fun r_4 M_5 => ?_)
    exact zz_iret C hr dX9_as_21
  · refine zz_iload_n C dX9_as_8 rfl (lv_at hl 2 rfl) ?_
    refine zz_callSi (As := [.int x2]) (rest := []) C (m_X9_isKind l E x2  M_2) (va_cwS 1 C.1.2.2.2.2 gX9_as_X9_isKind rfl rfl rfl hdS_X9_isKind ⟨Nat.le_of_ble_eq_true rfl, Nat.le_of_ble_eq_true rfl⟩) rfl hl.1 rfl (Nat.le_of_ble_eq_true rfl) dX9_as_9 (fun r_6 M_7 => ?_)
    refine zz_if_ne (tgt := 22) C dX9_as_12 (by decide) (fun c_8 => ?_) (fun c_8 => ?_)
    · refine zz_aload_n C dX9_as_15 rfl (lv_at hl 0 rfl) ?_
      refine zz_ldc (v := -1000000001) C (List.mem_of_getElem? (i := 1) rfl) dX9_as_16 ?_
      refine zz_callVi (As := [.int (-1000000001 : Int32)]) (rest := []) C (m_X9_finds l E a0 (-1000000001 : Int32) h0 M_7) (cwV 1 C.1.2.2.2.2 gX9_as_X9_finds rfl rfl rfl hdV_X9_finds ⟨Nat.le_of_ble_eq_true rfl, Nat.le_of_ble_eq_true rfl⟩) (zz_lt h0 (by decide)) (zz_c9 h0) rfl rfl hl.1 rfl (Nat.le_of_ble_eq_true rfl) dX9_as_18 (fun r_18 M_19 => ?_)
      exact zz_iret C hr dX9_as_21
    · refine zz_aload_n C dX9_as_22 rfl (lv_at hl 0 rfl) ?_
      refine zz_iload_n C dX9_as_23 rfl (lv_at hl 1 rfl) ?_
      refine zz_callVi (As := [.int x1]) (rest := []) C (m_X9_kindOf l E a0 x1 h0 M_7) (cwV 1 C.1.2.2.2.2 gX9_as_X9_kindOf rfl rfl rfl hdV_X9_kindOf ⟨Nat.le_of_ble_eq_true rfl, Nat.le_of_ble_eq_true rfl⟩) (zz_lt h0 (by decide)) (zz_c9 h0) rfl rfl hl.1 rfl (Nat.le_of_ble_eq_true rfl) dX9_as_24 (fun r_9 M_10 => ?_)
      refine zz_iload_n C dX9_as_27 rfl (lv_at hl 2 rfl) ?_
      refine zz_callSi (As := [.int r_9, .int x2]) (rest := []) C (m_X9_isUnder l E r_9 x2  M_10) (va_cwS 2 C.1.2.2.2.2 gX9_as_X9_isUnder rfl rfl rfl hdS_X9_isUnder ⟨Nat.le_of_ble_eq_true rfl, Nat.le_of_ble_eq_true rfl⟩) rfl hl.1 rfl (Nat.le_of_ble_eq_true rfl) dX9_as_28 (fun r_11 M_12 => ?_)
      refine zz_if_eq (tgt := 42) C dX9_as_31 (by decide) (fun c_13 => ?_) (fun c_13 => ?_)
      · refine zz_aload_n C dX9_as_42 rfl (lv_at hl 0 rfl) ?_
        refine zz_ldc (v := -1000000003) C (List.mem_of_getElem? (i := 2) rfl) dX9_as_43 ?_
        refine zz_callVi (As := [.int (-1000000003 : Int32)]) (rest := []) C (m_X9_finds l E a0 (-1000000003 : Int32) h0 M_12) (cwV 1 C.1.2.2.2.2 gX9_as_X9_finds rfl rfl rfl hdV_X9_finds ⟨Nat.le_of_ble_eq_true rfl, Nat.le_of_ble_eq_true rfl⟩) (zz_lt h0 (by decide)) (zz_c9 h0) rfl rfl hl.1 rfl (Nat.le_of_ble_eq_true rfl) dX9_as_45 (fun r_14 M_15 => ?_)
        exact zz_iret C hr dX9_as_48
      · refine zz_aload_n C dX9_as_34 rfl (lv_at hl 0 rfl) ?_
        refine zz_iload_n C dX9_as_35 rfl (lv_at hl 1 rfl) ?_
        refine zz_callVi (As := [.int x1]) (rest := []) C (m_X9_burnsOf l E a0 x1 h0 M_12) (cwV 1 C.1.2.2.2.2 gX9_as_X9_burnsOf rfl rfl rfl hdV_X9_burnsOf ⟨Nat.le_of_ble_eq_true rfl, Nat.le_of_ble_eq_true rfl⟩) (zz_lt h0 (by decide)) (zz_c9 h0) rfl rfl hl.1 rfl (Nat.le_of_ble_eq_true rfl) dX9_as_36 (fun r_16 M_17 => ?_)
        refine zz_goto (tgt := 48) C dX9_as_39 (by decide) ?_
        exact zz_iret C hr dX9_as_48
-- X9_plain ('X9', 'plain', '(I)I')
def f_X9_plain (x0 : Int32) (M : zz_M) : Option (Int32 × zz_M) := (if (30 : Int32) ≤ x0 then (if (60 : Int32) ≤ x0 then (if (80 : Int32) ≤ x0 then some ((-5 : Int32), M) else some ((4 : Int32), M)) else some ((6 : Int32), M)) else some ((9 : Int32), M))
set_option maxRecDepth 100000 in
set_option maxHeartbeats 4000000 in
theorem m_X9_plain (l : Launch) (E : zz_E) (x0 : Int32)  (M : zz_M) : zz_Met (zz_pi E) l yX9_plain wsX9_plain 1 E [.int x0] M (f_X9_plain x0 M) := by
  refine zz_met (cc := cX9_plain) (nL := 1) (ret := (some .int)) (by decide) rfl (Nat.le_of_ble_eq_true rfl) ?_
  intro p e s m below meth c C hr ls hl
  have C : zz_C E RX9 cX9_plain 1 wsX9_plain p s m [.int x0].toArray meth c := C
  have hl : lv_has ls 1 [(0, .int x0)] := hl
  unfold f_X9_plain
  refine zz_iload_n C dX9_plain_0 rfl (lv_at hl 0 rfl) ?_
  refine zz_bipush (v := 30) C dX9_plain_1 (by decide) ?_
  refine zz_icmp_ge (tgt := 11) C dX9_plain_3 (by decide) (fun c_1 => ?_) (fun c_1 => ?_)
  · refine zz_iload_n C dX9_plain_11 rfl (lv_at hl 0 rfl) ?_
    refine zz_bipush (v := 60) C dX9_plain_12 (by decide) ?_
    refine zz_icmp_ge (tgt := 22) C dX9_plain_14 (by decide) (fun c_2 => ?_) (fun c_2 => ?_)
    · refine zz_iload_n C dX9_plain_22 rfl (lv_at hl 0 rfl) ?_
      refine zz_bipush (v := 80) C dX9_plain_23 (by decide) ?_
      refine zz_icmp_ge (tgt := 32) C dX9_plain_25 (by decide) (fun c_3 => ?_) (fun c_3 => ?_)
      · refine zz_bipush (v := -5) C dX9_plain_32 (by decide) ?_
        exact zz_iret C hr dX9_plain_34
      · refine zz_iconst (v := 4) C dX9_plain_28 (by decide) ?_
        refine zz_goto (tgt := 34) C dX9_plain_29 (by decide) ?_
        exact zz_iret C hr dX9_plain_34
    · refine zz_bipush (v := 6) C dX9_plain_17 (by decide) ?_
      refine zz_goto (tgt := 34) C dX9_plain_19 (by decide) ?_
      exact zz_iret C hr dX9_plain_34
  · refine zz_bipush (v := 9) C dX9_plain_6 (by decide) ?_
    refine zz_goto (tgt := 34) C dX9_plain_8 (by decide) ?_
    exact zz_iret C hr dX9_plain_34
-- X9_takesAt ('X9', 'takesAt', '(II)I')
theorem hdS_X9_plain : yX9_plain.cls ≠ "java/lang/invoke/MethodHandle" ∧ yX9_plain.cls ≠ "java/lang/invoke/VarHandle" ∧ (parseMethodDescriptor yX9_plain.desc).map (fun d => d.parameters.length) = some 1 := by decide +kernel
def f_X9_takesAt (a0 : Nat) (x1 : Int32) (x2 : Int32) (M : zz_M) : Option (Int32 × zz_M) := zz_bd (f_X9_plain x2 M) (fun r_1 M_2 => zz_bd (f_X9_kindOf a0 x1 M_2) (fun r_3 M_4 => (if r_3 = (1 : Int32) then some (((3 : Int32) * r_1), M_4) else (if r_3 = (2 : Int32) then (if r_1 ≤ (1 : Int32) then some (r_1, M_4) else some ((r_1 - (1 : Int32)), M_4)) else (if r_3 = (3 : Int32) then zz_bd (f_X9_many a0 x1 M_4) (fun r_9 M_10 => (if r_9 = 0 then some (r_1, M_10) else some ((r_1 / (2 : Int32)), M_10))) else (if r_3 = (4 : Int32) then (if r_1 ≤ (1 : Int32) then some (r_1, M_4) else some ((r_1 + (4 : Int32)), M_4)) else (if r_3 = (5 : Int32) then (if r_1 ≤ 0 then some (((3 : Int32) * r_1), M_4) else zz_bd (f_X9_many a0 x1 M_4) (fun r_16 M_17 => some ((((3 : Int32) * r_1) + r_16), M_17))) else some (r_1, M_4))))))))
set_option maxRecDepth 100000 in
set_option maxHeartbeats 4000000 in
theorem m_X9_takesAt (l : Launch) (E : zz_E) (a0 : Nat) (x1 : Int32) (x2 : Int32) (h0 : zz_sh a0 = 9) (M : zz_M) : zz_Met (zz_pi E) l yX9_takesAt wsX9_takesAt 3 E [.ref (E.1 + a0), .int x1, .int x2] M (f_X9_takesAt a0 x1 x2 M) := by
  refine zz_met (cc := cX9_takesAt) (nL := 4) (ret := (some .int)) (by decide) rfl (Nat.le_of_ble_eq_true rfl) ?_
  intro p e s m below meth c C hr ls hl
  have C : zz_C E RX9 cX9_takesAt 4 wsX9_takesAt p s m [.ref (E.1 + a0), .int x1, .int x2].toArray meth c := C
  have hl : lv_has ls 4 [(0, .ref (E.1 + a0)), (1, .int x1), (2, .int x2)] := hl
  unfold f_X9_takesAt
  refine zz_iload_n C dX9_takesAt_0 rfl (lv_at hl 2 rfl) ?_
  refine zz_callSi (As := [.int x2]) (rest := []) C (m_X9_plain l E x2  M) (va_cwS 1 C.1.2.2.2.2 gX9_takesAt_X9_plain rfl rfl rfl hdS_X9_plain ⟨Nat.le_of_ble_eq_true rfl, Nat.le_of_ble_eq_true rfl⟩) rfl hl.1 rfl (Nat.le_of_ble_eq_true rfl) dX9_takesAt_1 (fun r_1 M_2 => ?_)
  refine zz_istored_n (lv' := [(3, .int r_1), (0, .ref (E.1 + a0)), (1, .int x1), (2, .int x2)]) C dX9_takesAt_4 rfl hl (by decide) rfl (fun ls hl => ?_)
  refine zz_aload_n C dX9_takesAt_5 rfl (lv_at hl 1 rfl) ?_
  refine zz_iload_n C dX9_takesAt_6 rfl (lv_at hl 2 rfl) ?_
  refine zz_callVi (As := [.int x1]) (rest := []) C (m_X9_kindOf l E a0 x1 h0 M_2) (cwV 1 C.1.2.2.2.2 gX9_takesAt_X9_kindOf rfl rfl rfl hdV_X9_kindOf ⟨Nat.le_of_ble_eq_true rfl, Nat.le_of_ble_eq_true rfl⟩) (zz_lt h0 (by decide)) (zz_c9 h0) rfl rfl hl.1 rfl (Nat.le_of_ble_eq_true rfl) dX9_takesAt_7 (fun r_3 M_4 => ?_)
  refine zz_ite (fun c_5 => ?_) (fun c_5 => ?_)
  · refine zz_tabIn (tgt := 44) C dX9_takesAt_10 (by rw [c_5]; decide) (by rw [c_5]; decide) (by rw [c_5]; rfl) (by decide) ?_
    refine zz_iconst (v := 3) C dX9_takesAt_44 (by decide) ?_
    refine zz_iload_n C dX9_takesAt_45 rfl (lv_at hl 0 rfl) ?_
    refine zz_imul C dX9_takesAt_46 ?_
    exact zz_iret C hr dX9_takesAt_47
  · refine zz_ite (fun c_6 => ?_) (fun c_6 => ?_)
    · refine zz_tabIn (tgt := 68) C dX9_takesAt_10 (by rw [c_6]; decide) (by rw [c_6]; decide) (by rw [c_6]; rfl) (by decide) ?_
      refine zz_iload_n C dX9_takesAt_68 rfl (lv_at hl 0 rfl) ?_
      refine zz_iconst (v := 1) C dX9_takesAt_69 (by decide) ?_
      refine zz_icmp_le (tgt := 79) C dX9_takesAt_70 (by decide) (fun c_7 => ?_) (fun c_7 => ?_)
      · refine zz_iload_n C dX9_takesAt_79 rfl (lv_at hl 0 rfl) ?_
        exact zz_iret C hr dX9_takesAt_80
      · refine zz_iload_n C dX9_takesAt_73 rfl (lv_at hl 0 rfl) ?_
        refine zz_iconst (v := 1) C dX9_takesAt_74 (by decide) ?_
        refine zz_isub C dX9_takesAt_75 ?_
        refine zz_goto (tgt := 80) C dX9_takesAt_76 (by decide) ?_
        exact zz_iret C hr dX9_takesAt_80
    · refine zz_ite (fun c_8 => ?_) (fun c_8 => ?_)
      · refine zz_tabIn (tgt := 94) C dX9_takesAt_10 (by rw [c_8]; decide) (by rw [c_8]; decide) (by rw [c_8]; rfl) (by decide) ?_
        refine zz_aload_n C dX9_takesAt_94 rfl (lv_at hl 1 rfl) ?_
        refine zz_iload_n C dX9_takesAt_95 rfl (lv_at hl 2 rfl) ?_
        refine zz_callVi (As := [.int x1]) (rest := []) C (m_X9_many l E a0 x1 h0 M_4) (cwV 1 C.1.2.2.2.2 gX9_takesAt_X9_many rfl rfl rfl hdV_X9_many ⟨Nat.le_of_ble_eq_true rfl, Nat.le_of_ble_eq_true rfl⟩) (zz_lt h0 (by decide)) (zz_c9 h0) rfl rfl hl.1 rfl (Nat.le_of_ble_eq_true rfl) dX9_takesAt_96 (fun r_9 M_10 => ?_)
        refine zz_if_ne (tgt := 106) C dX9_takesAt_99 (by decide) (fun c_11 => ?_) (fun c_11 => ?_)
        · refine zz_iload_n C dX9_takesAt_102 rfl (lv_at hl 0 rfl) ?_
          refine zz_goto (tgt := 109) C dX9_takesAt_103 (by decide) ?_
          exact zz_iret C hr dX9_takesAt_109
        · refine zz_iload_n C dX9_takesAt_106 rfl (lv_at hl 0 rfl) ?_
          refine zz_iconst (v := 2) C dX9_takesAt_107 (by decide) ?_
          refine zz_idivc C dX9_takesAt_108 (by decide) ?_
          exact zz_iret C hr dX9_takesAt_109
      · refine zz_ite (fun c_12 => ?_) (fun c_12 => ?_)
        · refine zz_tabIn (tgt := 81) C dX9_takesAt_10 (by rw [c_12]; decide) (by rw [c_12]; decide) (by rw [c_12]; rfl) (by decide) ?_
          refine zz_iload_n C dX9_takesAt_81 rfl (lv_at hl 0 rfl) ?_
          refine zz_iconst (v := 1) C dX9_takesAt_82 (by decide) ?_
          refine zz_icmp_le (tgt := 92) C dX9_takesAt_83 (by decide) (fun c_13 => ?_) (fun c_13 => ?_)
          · refine zz_iload_n C dX9_takesAt_92 rfl (lv_at hl 0 rfl) ?_
            exact zz_iret C hr dX9_takesAt_93
          · refine zz_iload_n C dX9_takesAt_86 rfl (lv_at hl 0 rfl) ?_
            refine zz_iconst (v := 4) C dX9_takesAt_87 (by decide) ?_
            refine zz_iadd C dX9_takesAt_88 ?_
            refine zz_goto (tgt := 93) C dX9_takesAt_89 (by decide) ?_
            exact zz_iret C hr dX9_takesAt_93
        · refine zz_ite (fun c_14 => ?_) (fun c_14 => ?_)
          · refine zz_tabIn (tgt := 48) C dX9_takesAt_10 (by rw [c_14]; decide) (by rw [c_14]; decide) (by rw [c_14]; rfl) (by decide) ?_
            refine zz_iload_n C dX9_takesAt_48 rfl (lv_at hl 0 rfl) ?_
            refine zz_if_le (tgt := 64) C dX9_takesAt_49 (by decide) (fun c_15 => ?_) (fun c_15 => ?_)
            · refine zz_iconst (v := 3) C dX9_takesAt_64 (by decide) ?_
              refine zz_iload_n C dX9_takesAt_65 rfl (lv_at hl 0 rfl) ?_
              refine zz_imul C dX9_takesAt_66 ?_
              exact zz_iret C hr dX9_takesAt_67
            · refine zz_iconst (v := 3) C dX9_takesAt_52 (by decide) ?_
              refine zz_iload_n C dX9_takesAt_53 rfl (lv_at hl 0 rfl) ?_
              refine zz_imul C dX9_takesAt_54 ?_
              refine zz_aload_n C dX9_takesAt_55 rfl (lv_at hl 1 rfl) ?_
              refine zz_iload_n C dX9_takesAt_56 rfl (lv_at hl 2 rfl) ?_
              refine zz_callVi (As := [.int x1]) (rest := [.int ((3 : Int32) * r_1)]) C (m_X9_many l E a0 x1 h0 M_4) (cwV 1 C.1.2.2.2.2 gX9_takesAt_X9_many rfl rfl rfl hdV_X9_many ⟨Nat.le_of_ble_eq_true rfl, Nat.le_of_ble_eq_true rfl⟩) (zz_lt h0 (by decide)) (zz_c9 h0) rfl rfl hl.1 rfl (Nat.le_of_ble_eq_true rfl) dX9_takesAt_57 (fun r_16 M_17 => ?_)
              refine zz_iadd C dX9_takesAt_60 ?_
              refine zz_goto (tgt := 67) C dX9_takesAt_61 (by decide) ?_
              exact zz_iret C hr dX9_takesAt_67
          · refine zz_tabOut (tgt := 110) C dX9_takesAt_10 (by have q1 : r_3.toInt ≠ 1 := zz_ne c_5; have q2 : r_3.toInt ≠ 2 := zz_ne c_6; have q3 : r_3.toInt ≠ 3 := zz_ne c_8; have q4 : r_3.toInt ≠ 4 := zz_ne c_12; have q5 : r_3.toInt ≠ 5 := zz_ne c_14; omega) (by decide) ?_
            refine zz_iload_n C dX9_takesAt_110 rfl (lv_at hl 0 rfl) ?_
            exact zz_iret C hr dX9_takesAt_111
-- X9_takes ('X9', 'takes', '(II)I')
theorem hdV_X9_takesAt : yX9_takesAt.cls = RX9 ∧ yX9_takesAt.cls ≠ "java/lang/invoke/MethodHandle" ∧ yX9_takesAt.cls ≠ "java/lang/invoke/VarHandle" ∧ (parseMethodDescriptor yX9_takesAt.desc).map (fun d => d.parameters.length) = some 2 := by decide +kernel
def f_X9_takes (a0 : Nat) (x1 : Int32) (x2 : Int32) (M : zz_M) : Option (Int32 × zz_M) := zz_bd (f_X9_isCandle a0 x1 M) (fun r_1 M_2 => (if r_1 = 0 then zz_bd (f_X9_finds a0 (-1000000001 : Int32) M_2) (fun r_4 M_5 => some (r_4, M_5)) else zz_bd (f_X9_isVat x2 M_2) (fun r_6 M_7 => (if r_6 = 0 then zz_bd (f_X9_finds a0 (-1000000001 : Int32) M_7) (fun r_9 M_10 => some (r_9, M_10)) else zz_bd (f_X9_its a0 x2 (1 : Int32) M_7) (fun r_11 M_12 => zz_bd (f_X9_takesAt a0 x1 r_11 M_12) (fun r_13 M_14 => some (r_13, M_14)))))))
set_option maxRecDepth 100000 in
set_option maxHeartbeats 4000000 in
theorem m_X9_takes (l : Launch) (E : zz_E) (a0 : Nat) (x1 : Int32) (x2 : Int32) (h0 : zz_sh a0 = 9) (M : zz_M) : zz_Met (zz_pi E) l yX9_takes wsX9_takes 4 E [.ref (E.1 + a0), .int x1, .int x2] M (f_X9_takes a0 x1 x2 M) := by
  refine zz_met (cc := cX9_takes) (nL := 3) (ret := (some .int)) (by decide) rfl (Nat.le_of_ble_eq_true rfl) ?_
  intro p e s m below meth c C hr ls hl
  have C : zz_C E RX9 cX9_takes 3 wsX9_takes p s m [.ref (E.1 + a0), .int x1, .int x2].toArray meth c := C
  have hl : lv_has ls 3 [(0, .ref (E.1 + a0)), (1, .int x1), (2, .int x2)] := hl
  unfold f_X9_takes
  refine zz_aload_n C dX9_takes_0 rfl (lv_at hl 0 rfl) ?_
  refine zz_iload_n C dX9_takes_1 rfl (lv_at hl 1 rfl) ?_
  refine zz_callVi (As := [.int x1]) (rest := []) C (m_X9_isCandle l E a0 x1 h0 M) (cwV 1 C.1.2.2.2.2 gX9_takes_X9_isCandle rfl rfl rfl hdV_X9_isCandle ⟨Nat.le_of_ble_eq_true rfl, Nat.le_of_ble_eq_true rfl⟩) (zz_lt h0 (by decide)) (zz_c9 h0) rfl rfl hl.1 rfl (Nat.le_of_ble_eq_true rfl) dX9_takes_2 (fun r_1 M_2 => ?_)
  refine zz_if_eq (tgt := 29) C dX9_takes_5 (by decide) (fun c_3 => ?_) (fun c_3 => ?_)
  · refine zz_aload_n C dX9_takes_29 rfl (lv_at hl 0 rfl) ?_
    refine zz_ldc (v := -1000000001) C (List.mem_of_getElem? (i := 1) rfl) dX9_takes_30 ?_
    refine zz_callVi (As := [.int (-1000000001 : Int32)]) (rest := []) C (m_X9_finds l E a0 (-1000000001 : Int32) h0 M_2) (cwV 1 C.1.2.2.2.2 gX9_takes_X9_finds rfl rfl rfl hdV_X9_finds ⟨Nat.le_of_ble_eq_true rfl, Nat.le_of_ble_eq_true rfl⟩) (zz_lt h0 (by decide)) (zz_c9 h0) rfl rfl hl.1 rfl (Nat.le_of_ble_eq_true rfl) dX9_takes_32 (fun r_4 M_5 => ?_)
    exact zz_iret C hr dX9_takes_35
  · refine zz_iload_n C dX9_takes_8 rfl (lv_at hl 2 rfl) ?_
    refine zz_callSi (As := [.int x2]) (rest := []) C (m_X9_isVat l E x2  M_2) (va_cwS 1 C.1.2.2.2.2 gX9_takes_X9_isVat rfl rfl rfl hdS_X9_isVat ⟨Nat.le_of_ble_eq_true rfl, Nat.le_of_ble_eq_true rfl⟩) rfl hl.1 rfl (Nat.le_of_ble_eq_true rfl) dX9_takes_9 (fun r_6 M_7 => ?_)
    refine zz_if_eq (tgt := 29) C dX9_takes_12 (by decide) (fun c_8 => ?_) (fun c_8 => ?_)
    · refine zz_aload_n C dX9_takes_29 rfl (lv_at hl 0 rfl) ?_
      refine zz_ldc (v := -1000000001) C (List.mem_of_getElem? (i := 1) rfl) dX9_takes_30 ?_
      refine zz_callVi (As := [.int (-1000000001 : Int32)]) (rest := []) C (m_X9_finds l E a0 (-1000000001 : Int32) h0 M_7) (cwV 1 C.1.2.2.2.2 gX9_takes_X9_finds rfl rfl rfl hdV_X9_finds ⟨Nat.le_of_ble_eq_true rfl, Nat.le_of_ble_eq_true rfl⟩) (zz_lt h0 (by decide)) (zz_c9 h0) rfl rfl hl.1 rfl (Nat.le_of_ble_eq_true rfl) dX9_takes_32 (fun r_9 M_10 => ?_)
      exact zz_iret C hr dX9_takes_35
    · refine zz_aload_n C dX9_takes_15 rfl (lv_at hl 0 rfl) ?_
      refine zz_iload_n C dX9_takes_16 rfl (lv_at hl 1 rfl) ?_
      refine zz_aload_n C dX9_takes_17 rfl (lv_at hl 0 rfl) ?_
      refine zz_iload_n C dX9_takes_18 rfl (lv_at hl 2 rfl) ?_
      refine zz_iconst (v := 1) C dX9_takes_19 (by decide) ?_
      refine zz_callVi (As := [.int x2, .int (1 : Int32)]) (rest := [.int x1, .ref (E.1 + a0)]) C (m_X9_its l E a0 x2 (1 : Int32) h0 M_7) (cwV 2 C.1.2.2.2.2 gX9_takes_X9_its rfl rfl rfl hdV_X9_its ⟨Nat.le_of_ble_eq_true rfl, Nat.le_of_ble_eq_true rfl⟩) (zz_lt h0 (by decide)) (zz_c9 h0) rfl rfl hl.1 rfl (Nat.le_of_ble_eq_true rfl) dX9_takes_20 (fun r_11 M_12 => ?_)
      refine zz_callVi (As := [.int x1, .int r_11]) (rest := []) C (m_X9_takesAt l E a0 x1 r_11 h0 M_12) (cwV 2 C.1.2.2.2.2 gX9_takes_X9_takesAt rfl rfl rfl hdV_X9_takesAt ⟨Nat.le_of_ble_eq_true rfl, Nat.le_of_ble_eq_true rfl⟩) (zz_lt h0 (by decide)) (zz_c9 h0) rfl rfl hl.1 rfl (Nat.le_of_ble_eq_true rfl) dX9_takes_23 (fun r_13 M_14 => ?_)
      refine zz_goto (tgt := 35) C dX9_takes_26 (by decide) ?_
      exact zz_iret C hr dX9_takes_35
-- X9_holdsMore ('X9', 'holdsMore', '(II)V')
def f_X9_holdsMore (a0 : Nat) (x1 : Int32) (x2 : Int32) (M : zz_M) : Option (Unit × zz_M) := zz_bd (f_X9_its a0 x1 (2 : Int32) M) (fun r_1 M_2 => zz_w (r_1 + x2) (fun x3_3 => (if (99999 : Int32) ≤ x3_3 then zz_bd (f_X9_setVat a0 x1 (2 : Int32) (99999 : Int32) M_2) (fun _ M_5 => some ((), M_5)) else zz_bd (f_X9_setVat a0 x1 (2 : Int32) x3_3 M_2) (fun _ M_6 => some ((), M_6)))))
set_option maxRecDepth 100000 in
set_option maxHeartbeats 4000000 in
theorem m_X9_holdsMore (l : Launch) (E : zz_E) (a0 : Nat) (x1 : Int32) (x2 : Int32) (h0 : zz_sh a0 = 9) (M : zz_M) : zz_Met (zz_pv E) l yX9_holdsMore wsX9_holdsMore 2 E [.ref (E.1 + a0), .int x1, .int x2] M (f_X9_holdsMore a0 x1 x2 M) := by
  refine zz_met (cc := cX9_holdsMore) (nL := 4) (ret := none) (by decide) rfl (Nat.le_of_ble_eq_true rfl) ?_
  intro p e s m below meth c C hr ls hl
  have C : zz_C E RX9 cX9_holdsMore 4 wsX9_holdsMore p s m [.ref (E.1 + a0), .int x1, .int x2].toArray meth c := C
  have hl : lv_has ls 4 [(0, .ref (E.1 + a0)), (1, .int x1), (2, .int x2)] := hl
  unfold f_X9_holdsMore
  refine zz_aload_n C dX9_holdsMore_0 rfl (lv_at hl 0 rfl) ?_
  refine zz_iload_n C dX9_holdsMore_1 rfl (lv_at hl 1 rfl) ?_
  refine zz_iconst (v := 2) C dX9_holdsMore_2 (by decide) ?_
  refine zz_callVi (As := [.int x1, .int (2 : Int32)]) (rest := []) C (m_X9_its l E a0 x1 (2 : Int32) h0 M) (cwV 2 C.1.2.2.2.2 gX9_holdsMore_X9_its rfl rfl rfl hdV_X9_its ⟨Nat.le_of_ble_eq_true rfl, Nat.le_of_ble_eq_true rfl⟩) (zz_lt h0 (by decide)) (zz_c9 h0) rfl rfl hl.1 rfl (Nat.le_of_ble_eq_true rfl) dX9_holdsMore_3 (fun r_1 M_2 => ?_)
  refine zz_iload_n C dX9_holdsMore_6 rfl (lv_at hl 2 rfl) ?_
  refine zz_iadd C dX9_holdsMore_7 ?_
  refine zz_istore_n C (fun x3_3 => [(3, .int x3_3), (0, .ref (E.1 + a0)), (1, .int x1), (2, .int x2)]) dX9_holdsMore_8 rfl hl (by decide) (fun _ => rfl) (fun x3_3 ls hl => ?_)
  refine zz_aload_n C dX9_holdsMore_9 rfl (lv_at hl 1 rfl) ?_
  refine zz_iload_n C dX9_holdsMore_10 rfl (lv_at hl 2 rfl) ?_
  refine zz_iconst (v := 2) C dX9_holdsMore_11 (by decide) ?_
  refine zz_iload_n C dX9_holdsMore_12 rfl (lv_at hl 0 rfl) ?_
  refine zz_ldc (v := 99999) C (List.mem_of_getElem? (i := 1) rfl) dX9_holdsMore_13 ?_
  refine zz_icmp_ge (tgt := 22) C dX9_holdsMore_15 (by decide) (fun c_4 => ?_) (fun c_4 => ?_)
  · refine zz_ldc (v := 99999) C (List.mem_of_getElem? (i := 1) rfl) dX9_holdsMore_22 ?_
    refine zz_callVv (As := [.int x1, .int (2 : Int32), .int (99999 : Int32)]) (rest := []) C (m_X9_setVat l E a0 x1 (2 : Int32) (99999 : Int32) h0 M_2) (cwV 3 C.1.2.2.2.2 gX9_holdsMore_X9_setVat rfl rfl rfl hdV_X9_setVat ⟨Nat.le_of_ble_eq_true rfl, Nat.le_of_ble_eq_true rfl⟩) (zz_lt h0 (by decide)) (zz_c9 h0) rfl rfl hl.1 rfl (Nat.le_of_ble_eq_true rfl) dX9_holdsMore_24 (fun _ M_5 => ?_)
    exact zz_vret C hr dX9_holdsMore_27
  · refine zz_iload_n C dX9_holdsMore_18 rfl (lv_at hl 0 rfl) ?_
    refine zz_goto (tgt := 24) C dX9_holdsMore_19 (by decide) ?_
    refine zz_callVv (As := [.int x1, .int (2 : Int32), .int x3_3]) (rest := []) C (m_X9_setVat l E a0 x1 (2 : Int32) x3_3 h0 M_2) (cwV 3 C.1.2.2.2.2 gX9_holdsMore_X9_setVat rfl rfl rfl hdV_X9_setVat ⟨Nat.le_of_ble_eq_true rfl, Nat.le_of_ble_eq_true rfl⟩) (zz_lt h0 (by decide)) (zz_c9 h0) rfl rfl hl.1 rfl (Nat.le_of_ble_eq_true rfl) dX9_holdsMore_24 (fun _ M_6 => ?_)
    exact zz_vret C hr dX9_holdsMore_27
-- X9_comesOff ('X9', 'comesOff', '(II)I')
theorem in_X9_comesOff_X9 : ∀ w ∈ u_ws RX9 TX9 20, w ∈ wsX9_comesOff := fun _ h => List.mem_cons_of_mem _ (List.mem_append_right _ h)
def b_X9_comesOff_116 (k2 : Nat → Int32 → Int32 → Int32 → zz_M → Option (Int32 × zz_M)) (a0 : Nat) (x1 : Int32) (x2 : Int32) (x3 : Int32) (x6 : Int32) (st0 : Int32) (st1 : Int32) (st2 : Int32) (rt3 : Nat) (M : zz_M) : Option (Int32 × zz_M) := (if zz_in st2 440 = true then zz_w (zz_si M rt3 (zz_n st2) (st1 - st0)) (fun M_20 => zz_w (x3 - x6) (fun x3_21 => k2 a0 x1 x2 x3_21 M_20)) else none)
set_option maxRecDepth 100000 in
set_option maxHeartbeats 4000000 in
theorem wb_X9_comesOff_116 {p : Program} {l : Launch} {e : Env} {s : State} {m : MethodId} {args : Array Value} {below : List Frame} {meth : Method} {c : Code} {E : zz_E} (C : zz_C E RX9 cX9_comesOff 7 wsX9_comesOff p s m args meth c) (hr : meth.sig.returnType = (some .int)) {k2 : Nat → Int32 → Int32 → Int32 → zz_M → Option (Int32 × zz_M)} (hk2 : ∀ (a0 : Nat) (x1 : Int32) (x2 : Int32) (x3 : Int32) (ha0 : zz_sh a0 = 9) (M : zz_M) (ls : Array Slot), lv_has ls 7 [(0, .ref (E.1 + a0)), (1, .int x1), (2, .int x2), (3, .int x3)] → zz_Z E p l e (zz_rm 3) s m args below meth c (zz_Q (zz_pi E) E below args s) (k2 a0 x1 x2 x3 M) M (F0 m 2 ls [])) : ∀ (a0 : Nat) (x1 : Int32) (x2 : Int32) (x3 : Int32) (x6 : Int32) (st0 : Int32) (st1 : Int32) (st2 : Int32) (rt3 : Nat) (ha0 : zz_sh a0 = 9) (hrt3 : zz_sh rt3 = 13) (M : zz_M) (ls : Array Slot), lv_has ls 7 [(0, .ref (E.1 + a0)), (1, .int x1), (2, .int x2), (3, .int x3), (6, .int x6)] → zz_Z E p l e (zz_rm 3) s m args below meth c (zz_Q (zz_pi E) E below args s) (b_X9_comesOff_116 k2 a0 x1 x2 x3 x6 st0 st1 st2 rt3 M) M (F0 m 116 ls [.int st0, .int st1, .int st2, .ref (E.1 + rt3)]) := by
  intro a0 x1 x2 x3 x6 st0 st1 st2 rt3 ha0 hrt3 M ls hl
  unfold b_X9_comesOff_116
  refine zz_isub C dX9_comesOff_116 ?_
  refine zz_iast C (zz_lt hrt3 (by decide)) (fun _ => zz_c13 hrt3) dX9_comesOff_117 (fun M_20 => ?_)
  refine zz_iload_n C dX9_comesOff_118 rfl (lv_at hl 3 rfl) ?_
  refine zz_iload C dX9_comesOff_119 (lv_at hl 4 rfl) ?_
  refine zz_isub C dX9_comesOff_121 ?_
  refine zz_istore_n C (fun x3_21 => [(3, .int x3_21), (0, .ref (E.1 + a0)), (1, .int x1), (2, .int x2), (6, .int x6)]) dX9_comesOff_122 rfl hl (by decide) (fun _ => rfl) (fun x3_21 ls hl => ?_)
  refine zz_goto (tgt := 2) C dX9_comesOff_123 (by decide) ?_
  exact hk2 a0 x1 x2 x3_21 ha0 M_20 ls (lv_sub hl [1, 2, 3, 0] rfl)
def b_X9_comesOff_92 (k2 : Nat → Int32 → Int32 → Int32 → zz_M → Option (Int32 × zz_M)) (a0 : Nat) (x1 : Int32) (x2 : Int32) (x3 : Int32) (x5 : Int32) (x6 : Int32) (st0 : Int32) (st1 : Int32) (rt2 : Nat) (M : zz_M) : Option (Int32 × zz_M) := (if zz_in st1 440 = true then zz_w (zz_si M rt2 (zz_n st1) st0) (fun M_16 => zz_bd (f_X9_at x1 (1 : Int32) M_16) (fun r_17 M_18 => (if zz_in r_17 440 = true then (if x6 = x5 then b_X9_comesOff_116 k2 a0 x1 x2 x3 x6 (1 : Int32) (zz_i M_18 130 (zz_n r_17)) r_17 130 M_18 else b_X9_comesOff_116 k2 a0 x1 x2 x3 x6 (0 : Int32) (zz_i M_18 130 (zz_n r_17)) r_17 130 M_18) else none))) else none)
set_option maxRecDepth 100000 in
set_option maxHeartbeats 4000000 in
theorem wb_X9_comesOff_92 {p : Program} {l : Launch} {e : Env} {s : State} {m : MethodId} {args : Array Value} {below : List Frame} {meth : Method} {c : Code} {E : zz_E} (C : zz_C E RX9 cX9_comesOff 7 wsX9_comesOff p s m args meth c) (hr : meth.sig.returnType = (some .int)) {k2 : Nat → Int32 → Int32 → Int32 → zz_M → Option (Int32 × zz_M)} (hk2 : ∀ (a0 : Nat) (x1 : Int32) (x2 : Int32) (x3 : Int32) (ha0 : zz_sh a0 = 9) (M : zz_M) (ls : Array Slot), lv_has ls 7 [(0, .ref (E.1 + a0)), (1, .int x1), (2, .int x2), (3, .int x3)] → zz_Z E p l e (zz_rm 3) s m args below meth c (zz_Q (zz_pi E) E below args s) (k2 a0 x1 x2 x3 M) M (F0 m 2 ls [])) : ∀ (a0 : Nat) (x1 : Int32) (x2 : Int32) (x3 : Int32) (x5 : Int32) (x6 : Int32) (st0 : Int32) (st1 : Int32) (rt2 : Nat) (ha0 : zz_sh a0 = 9) (hrt2 : zz_sh rt2 = 13) (M : zz_M) (ls : Array Slot), lv_has ls 7 [(0, .ref (E.1 + a0)), (1, .int x1), (2, .int x2), (3, .int x3), (5, .int x5), (6, .int x6)] → zz_Z E p l e (zz_rm 3) s m args below meth c (zz_Q (zz_pi E) E below args s) (b_X9_comesOff_92 k2 a0 x1 x2 x3 x5 x6 st0 st1 rt2 M) M (F0 m 92 ls [.int st0, .int st1, .ref (E.1 + rt2)]) := by
  intro a0 x1 x2 x3 x5 x6 st0 st1 rt2 ha0 hrt2 M ls hl
  unfold b_X9_comesOff_92
  refine zz_iast C (zz_lt hrt2 (by decide)) (fun _ => zz_c13 hrt2) dX9_comesOff_92 (fun M_16 => ?_)
  refine zz_aload_n C dX9_comesOff_93 rfl (lv_at hl 0 rfl) ?_
  refine zz_get C (zz_lt ha0 (by decide)) (zz_c9 ha0) rfl in_X9_comesOff_X9 0 (by decide) (List.mem_of_getElem? (i := 1) rfl) rfl dX9_comesOff_94 ?_
  refine zz_iload_n C dX9_comesOff_97 rfl (lv_at hl 1 rfl) ?_
  refine zz_iconst (v := 1) C dX9_comesOff_98 (by decide) ?_
  refine zz_callSi (As := [.int x1, .int (1 : Int32)]) (rest := [.ref (E.1 + 130)]) C (m_X9_at l E x1 (1 : Int32)  M_16) (va_cwS 2 C.1.2.2.2.2 gX9_comesOff_X9_at rfl rfl rfl hdS_X9_at ⟨Nat.le_of_ble_eq_true rfl, Nat.le_of_ble_eq_true rfl⟩) rfl hl.1 rfl (Nat.le_of_ble_eq_true rfl) dX9_comesOff_99 (fun r_17 M_18 => ?_)
  refine zz_dup2_11 C dX9_comesOff_102 rfl rfl ?_
  refine zz_iald C (zz_lt (zz_s9_0 ha0) (by decide)) (zz_c13 (zz_s9_0 ha0)) dX9_comesOff_103 ?_
  refine zz_iload C dX9_comesOff_104 (lv_at hl 5 rfl) ?_
  refine zz_iload C dX9_comesOff_106 (lv_at hl 4 rfl) ?_
  refine zz_icmp_ne (tgt := 115) C dX9_comesOff_108 (by decide) (fun c_19 => ?_) (fun c_19 => ?_)
  · refine zz_iconst (v := 1) C dX9_comesOff_111 (by decide) ?_
    refine zz_goto (tgt := 116) C dX9_comesOff_112 (by decide) ?_
    exact wb_X9_comesOff_116 C hr hk2 a0 x1 x2 x3 x6 (1 : Int32) (zz_i M_18 130 (zz_n r_17)) r_17 130 ha0 (zz_s9_0 ha0) M_18 ls (lv_sub hl [0, 1, 2, 3, 5] rfl)
  · refine zz_iconst (v := 0) C dX9_comesOff_115 (by decide) ?_
    exact wb_X9_comesOff_116 C hr hk2 a0 x1 x2 x3 x6 (0 : Int32) (zz_i M_18 130 (zz_n r_17)) r_17 130 ha0 (zz_s9_0 ha0) M_18 ls (lv_sub hl [0, 1, 2, 3, 5] rfl)
def b_X9_comesOff_55 (k2 : Nat → Int32 → Int32 → Int32 → zz_M → Option (Int32 × zz_M)) (a0 : Nat) (x1 : Int32) (x2 : Int32) (x3 : Int32) (x4 : Int32) (x5 : Int32) (st0 : Int32) (M : zz_M) : Option (Int32 × zz_M) := zz_bd (f_X9_many a0 x1 M) (fun r_11 M_12 => zz_bd (f_X9_at x1 (((2 : Int32) + r_11) - (1 : Int32)) M_12) (fun r_13 M_14 => (if 0 ≤ x4 then b_X9_comesOff_92 k2 a0 x1 x2 x3 x5 st0 (x4 - st0) r_13 130 M_14 else b_X9_comesOff_92 k2 a0 x1 x2 x3 x5 st0 (x4 + st0) r_13 130 M_14)))
set_option maxRecDepth 100000 in
set_option maxHeartbeats 4000000 in
theorem wb_X9_comesOff_55 {p : Program} {l : Launch} {e : Env} {s : State} {m : MethodId} {args : Array Value} {below : List Frame} {meth : Method} {c : Code} {E : zz_E} (C : zz_C E RX9 cX9_comesOff 7 wsX9_comesOff p s m args meth c) (hr : meth.sig.returnType = (some .int)) {k2 : Nat → Int32 → Int32 → Int32 → zz_M → Option (Int32 × zz_M)} (hk2 : ∀ (a0 : Nat) (x1 : Int32) (x2 : Int32) (x3 : Int32) (ha0 : zz_sh a0 = 9) (M : zz_M) (ls : Array Slot), lv_has ls 7 [(0, .ref (E.1 + a0)), (1, .int x1), (2, .int x2), (3, .int x3)] → zz_Z E p l e (zz_rm 3) s m args below meth c (zz_Q (zz_pi E) E below args s) (k2 a0 x1 x2 x3 M) M (F0 m 2 ls [])) : ∀ (a0 : Nat) (x1 : Int32) (x2 : Int32) (x3 : Int32) (x4 : Int32) (x5 : Int32) (st0 : Int32) (ha0 : zz_sh a0 = 9) (M : zz_M) (ls : Array Slot), lv_has ls 7 [(0, .ref (E.1 + a0)), (1, .int x1), (2, .int x2), (3, .int x3), (4, .int x4), (5, .int x5)] → zz_Z E p l e (zz_rm 3) s m args below meth c (zz_Q (zz_pi E) E below args s) (b_X9_comesOff_55 k2 a0 x1 x2 x3 x4 x5 st0 M) M (F0 m 55 ls [.int st0]) := by
  intro a0 x1 x2 x3 x4 x5 st0 ha0 M ls hl
  unfold b_X9_comesOff_55
  refine zz_istored (lv' := [(6, .int st0), (0, .ref (E.1 + a0)), (1, .int x1), (2, .int x2), (3, .int x3), (4, .int x4), (5, .int x5)]) C dX9_comesOff_55 hl (by decide) rfl (fun ls hl => ?_)
  refine zz_aload_n C dX9_comesOff_57 rfl (lv_at hl 1 rfl) ?_
  refine zz_get C (zz_lt ha0 (by decide)) (zz_c9 ha0) rfl in_X9_comesOff_X9 0 (by decide) (List.mem_of_getElem? (i := 1) rfl) rfl dX9_comesOff_58 ?_
  refine zz_iload_n C dX9_comesOff_61 rfl (lv_at hl 2 rfl) ?_
  refine zz_iconst (v := 2) C dX9_comesOff_62 (by decide) ?_
  refine zz_aload_n C dX9_comesOff_63 rfl (lv_at hl 1 rfl) ?_
  refine zz_iload_n C dX9_comesOff_64 rfl (lv_at hl 2 rfl) ?_
  refine zz_callVi (As := [.int x1]) (rest := [.int (2 : Int32), .int x1, .ref (E.1 + 130)]) C (m_X9_many l E a0 x1 ha0 M) (cwV 1 C.1.2.2.2.2 gX9_comesOff_X9_many rfl rfl rfl hdV_X9_many ⟨Nat.le_of_ble_eq_true rfl, Nat.le_of_ble_eq_true rfl⟩) (zz_lt ha0 (by decide)) (zz_c9 ha0) rfl rfl hl.1 rfl (Nat.le_of_ble_eq_true rfl) dX9_comesOff_65 (fun r_11 M_12 => ?_)
  refine zz_iadd C dX9_comesOff_68 ?_
  refine zz_iconst (v := 1) C dX9_comesOff_69 (by decide) ?_
  refine zz_isub C dX9_comesOff_70 ?_
  refine zz_callSi (As := [.int x1, .int (((2 : Int32) + r_11) - (1 : Int32))]) (rest := [.ref (E.1 + 130)]) C (m_X9_at l E x1 (((2 : Int32) + r_11) - (1 : Int32))  M_12) (va_cwS 2 C.1.2.2.2.2 gX9_comesOff_X9_at rfl rfl rfl hdS_X9_at ⟨Nat.le_of_ble_eq_true rfl, Nat.le_of_ble_eq_true rfl⟩) rfl hl.1 rfl (Nat.le_of_ble_eq_true rfl) dX9_comesOff_71 (fun r_13 M_14 => ?_)
  refine zz_iload C dX9_comesOff_74 (lv_at hl 5 rfl) ?_
  refine zz_if_ge (tgt := 87) C dX9_comesOff_76 (by decide) (fun c_15 => ?_) (fun c_15 => ?_)
  · refine zz_iload C dX9_comesOff_87 (lv_at hl 5 rfl) ?_
    refine zz_iload C dX9_comesOff_89 (lv_at hl 0 rfl) ?_
    refine zz_isub C dX9_comesOff_91 ?_
    exact wb_X9_comesOff_92 C hr hk2 a0 x1 x2 x3 x5 st0 (x4 - st0) r_13 130 ha0 (zz_s9_0 ha0) M_14 ls (lv_sub hl [1, 2, 3, 4, 6, 0] rfl)
  · refine zz_iload C dX9_comesOff_79 (lv_at hl 5 rfl) ?_
    refine zz_iload C dX9_comesOff_81 (lv_at hl 0 rfl) ?_
    refine zz_iadd C dX9_comesOff_83 ?_
    refine zz_goto (tgt := 92) C dX9_comesOff_84 (by decide) ?_
    exact wb_X9_comesOff_92 C hr hk2 a0 x1 x2 x3 x5 st0 (x4 + st0) r_13 130 ha0 (zz_s9_0 ha0) M_14 ls (lv_sub hl [1, 2, 3, 4, 6, 0] rfl)
def b_X9_comesOff_41 (k2 : Nat → Int32 → Int32 → Int32 → zz_M → Option (Int32 × zz_M)) (a0 : Nat) (x1 : Int32) (x2 : Int32) (x3 : Int32) (x4 : Int32) (st0 : Int32) (M : zz_M) : Option (Int32 × zz_M) := (if st0 ≤ x3 then b_X9_comesOff_55 k2 a0 x1 x2 x3 x4 st0 st0 M else b_X9_comesOff_55 k2 a0 x1 x2 x3 x4 st0 x3 M)
set_option maxRecDepth 100000 in
set_option maxHeartbeats 4000000 in
theorem wb_X9_comesOff_41 {p : Program} {l : Launch} {e : Env} {s : State} {m : MethodId} {args : Array Value} {below : List Frame} {meth : Method} {c : Code} {E : zz_E} (C : zz_C E RX9 cX9_comesOff 7 wsX9_comesOff p s m args meth c) (hr : meth.sig.returnType = (some .int)) {k2 : Nat → Int32 → Int32 → Int32 → zz_M → Option (Int32 × zz_M)} (hk2 : ∀ (a0 : Nat) (x1 : Int32) (x2 : Int32) (x3 : Int32) (ha0 : zz_sh a0 = 9) (M : zz_M) (ls : Array Slot), lv_has ls 7 [(0, .ref (E.1 + a0)), (1, .int x1), (2, .int x2), (3, .int x3)] → zz_Z E p l e (zz_rm 3) s m args below meth c (zz_Q (zz_pi E) E below args s) (k2 a0 x1 x2 x3 M) M (F0 m 2 ls [])) : ∀ (a0 : Nat) (x1 : Int32) (x2 : Int32) (x3 : Int32) (x4 : Int32) (st0 : Int32) (ha0 : zz_sh a0 = 9) (M : zz_M) (ls : Array Slot), lv_has ls 7 [(0, .ref (E.1 + a0)), (1, .int x1), (2, .int x2), (3, .int x3), (4, .int x4)] → zz_Z E p l e (zz_rm 3) s m args below meth c (zz_Q (zz_pi E) E below args s) (b_X9_comesOff_41 k2 a0 x1 x2 x3 x4 st0 M) M (F0 m 41 ls [.int st0]) := by
  intro a0 x1 x2 x3 x4 st0 ha0 M ls hl
  unfold b_X9_comesOff_41
  refine zz_istored (lv' := [(5, .int st0), (0, .ref (E.1 + a0)), (1, .int x1), (2, .int x2), (3, .int x3), (4, .int x4)]) C dX9_comesOff_41 hl (by decide) rfl (fun ls hl => ?_)
  refine zz_iload_n C dX9_comesOff_43 rfl (lv_at hl 4 rfl) ?_
  refine zz_iload C dX9_comesOff_44 (lv_at hl 0 rfl) ?_
  refine zz_icmp_ge (tgt := 53) C dX9_comesOff_46 (by decide) (fun c_10 => ?_) (fun c_10 => ?_)
  · refine zz_iload C dX9_comesOff_53 (lv_at hl 0 rfl) ?_
    exact wb_X9_comesOff_55 C hr hk2 a0 x1 x2 x3 x4 st0 st0 ha0 M ls (lv_sub hl [1, 2, 3, 4, 5, 0] rfl)
  · refine zz_iload_n C dX9_comesOff_49 rfl (lv_at hl 4 rfl) ?_
    refine zz_goto (tgt := 55) C dX9_comesOff_50 (by decide) ?_
    exact wb_X9_comesOff_55 C hr hk2 a0 x1 x2 x3 x4 st0 x3 ha0 M ls (lv_sub hl [1, 2, 3, 4, 5, 0] rfl)
def b_X9_comesOff_2 : Nat → Nat → Int32 → Int32 → Int32 → zz_M → Option (Int32 × zz_M)
  | 0 => fun _ _ _ _ _ => none
  | n + 1 => fun a0 x1 x2 x3 M => (if x3 ≤ 0 then some ((x2 - x3), M) else zz_bd (f_X9_many a0 x1 M) (fun r_2 M_3 => (if r_2 ≤ 0 then some ((x2 - x3), M_3) else zz_bd (f_X9_many a0 x1 M_3) (fun r_5 M_6 => zz_bd (f_X9_layerOf a0 x1 (r_5 - (1 : Int32)) M_6) (fun r_7 M_8 => (if 0 ≤ r_7 then b_X9_comesOff_41 (b_X9_comesOff_2 n) a0 x1 x2 x3 r_7 r_7 M_8 else b_X9_comesOff_41 (b_X9_comesOff_2 n) a0 x1 x2 x3 r_7 (-r_7) M_8))))))
set_option maxRecDepth 100000 in
set_option maxHeartbeats 4000000 in
theorem wb_X9_comesOff_2 {p : Program} {l : Launch} {e : Env} {s : State} {m : MethodId} {args : Array Value} {below : List Frame} {meth : Method} {c : Code} {E : zz_E} (C : zz_C E RX9 cX9_comesOff 7 wsX9_comesOff p s m args meth c) (hr : meth.sig.returnType = (some .int)) : ∀ (n : Nat) (a0 : Nat) (x1 : Int32) (x2 : Int32) (x3 : Int32) (ha0 : zz_sh a0 = 9) (M : zz_M) (ls : Array Slot), lv_has ls 7 [(0, .ref (E.1 + a0)), (1, .int x1), (2, .int x2), (3, .int x3)] → zz_Z E p l e (zz_rm 3) s m args below meth c (zz_Q (zz_pi E) E below args s) (b_X9_comesOff_2 n a0 x1 x2 x3 M) M (F0 m 2 ls []) := by
  intro n
  induction n with
  | zero => intro a0 x1 x2 x3 ha0 M ls hl; exact zz_none
  | succ n ih =>
    intro a0 x1 x2 x3 ha0 M ls hl
    rw [b_X9_comesOff_2]
    refine zz_iload_n C dX9_comesOff_2 rfl (lv_at hl 3 rfl) ?_
    refine zz_if_le (tgt := 126) C dX9_comesOff_3 (by decide) (fun c_1 => ?_) (fun c_1 => ?_)
    · refine zz_iload_n C dX9_comesOff_126 rfl (lv_at hl 2 rfl) ?_
      refine zz_iload_n C dX9_comesOff_127 rfl (lv_at hl 3 rfl) ?_
      refine zz_isub C dX9_comesOff_128 ?_
      exact zz_iret C hr dX9_comesOff_129
    · refine zz_aload_n C dX9_comesOff_6 rfl (lv_at hl 0 rfl) ?_
      refine zz_iload_n C dX9_comesOff_7 rfl (lv_at hl 1 rfl) ?_
      refine zz_callVi (As := [.int x1]) (rest := []) C (m_X9_many l E a0 x1 ha0 M) (cwV 1 C.1.2.2.2.2 gX9_comesOff_X9_many rfl rfl rfl hdV_X9_many ⟨Nat.le_of_ble_eq_true rfl, Nat.le_of_ble_eq_true rfl⟩) (zz_lt ha0 (by decide)) (zz_c9 ha0) rfl rfl hl.1 rfl (Nat.le_of_ble_eq_true rfl) dX9_comesOff_8 (fun r_2 M_3 => ?_)
      refine zz_if_le (tgt := 126) C dX9_comesOff_11 (by decide) (fun c_4 => ?_) (fun c_4 => ?_)
      · refine zz_iload_n C dX9_comesOff_126 rfl (lv_at hl 2 rfl) ?_
        refine zz_iload_n C dX9_comesOff_127 rfl (lv_at hl 3 rfl) ?_
        refine zz_isub C dX9_comesOff_128 ?_
        exact zz_iret C hr dX9_comesOff_129
      · refine zz_aload_n C dX9_comesOff_14 rfl (lv_at hl 0 rfl) ?_
        refine zz_iload_n C dX9_comesOff_15 rfl (lv_at hl 1 rfl) ?_
        refine zz_aload_n C dX9_comesOff_16 rfl (lv_at hl 0 rfl) ?_
        refine zz_iload_n C dX9_comesOff_17 rfl (lv_at hl 1 rfl) ?_
        refine zz_callVi (As := [.int x1]) (rest := [.int x1, .ref (E.1 + a0)]) C (m_X9_many l E a0 x1 ha0 M_3) (cwV 1 C.1.2.2.2.2 gX9_comesOff_X9_many rfl rfl rfl hdV_X9_many ⟨Nat.le_of_ble_eq_true rfl, Nat.le_of_ble_eq_true rfl⟩) (zz_lt ha0 (by decide)) (zz_c9 ha0) rfl rfl hl.1 rfl (Nat.le_of_ble_eq_true rfl) dX9_comesOff_18 (fun r_5 M_6 => ?_)
        refine zz_iconst (v := 1) C dX9_comesOff_21 (by decide) ?_
        refine zz_isub C dX9_comesOff_22 ?_
        refine zz_callVi (As := [.int x1, .int (r_5 - (1 : Int32))]) (rest := []) C (m_X9_layerOf l E a0 x1 (r_5 - (1 : Int32)) ha0 M_6) (cwV 2 C.1.2.2.2.2 gX9_comesOff_X9_layerOf rfl rfl rfl hdV_X9_layerOf ⟨Nat.le_of_ble_eq_true rfl, Nat.le_of_ble_eq_true rfl⟩) (zz_lt ha0 (by decide)) (zz_c9 ha0) rfl rfl hl.1 rfl (Nat.le_of_ble_eq_true rfl) dX9_comesOff_23 (fun r_7 M_8 => ?_)
        refine zz_istored (lv' := [(4, .int r_7), (0, .ref (E.1 + a0)), (1, .int x1), (2, .int x2), (3, .int x3)]) C dX9_comesOff_26 hl (by decide) rfl (fun ls hl => ?_)
        refine zz_iload C dX9_comesOff_28 (lv_at hl 0 rfl) ?_
        refine zz_if_ge (tgt := 39) C dX9_comesOff_30 (by decide) (fun c_9 => ?_) (fun c_9 => ?_)
        · refine zz_iload C dX9_comesOff_39 (lv_at hl 0 rfl) ?_
          exact wb_X9_comesOff_41 C hr ih a0 x1 x2 x3 r_7 r_7 ha0 M_8 ls (lv_sub hl [1, 2, 3, 4, 0] rfl)
        · refine zz_iload C dX9_comesOff_33 (lv_at hl 0 rfl) ?_
          refine zz_ineg C dX9_comesOff_35 ?_
          refine zz_goto (tgt := 41) C dX9_comesOff_36 (by decide) ?_
          exact wb_X9_comesOff_41 C hr ih a0 x1 x2 x3 r_7 (-r_7) ha0 M_8 ls (lv_sub hl [1, 2, 3, 4, 0] rfl)
def f_X9_comesOff (a0 : Nat) (x1 : Int32) (x2 : Int32) (M : zz_M) : Option (Int32 × zz_M) := b_X9_comesOff_2  zz_fuel a0 x1 x2 x2 M
set_option maxRecDepth 100000 in
set_option maxHeartbeats 4000000 in
theorem m_X9_comesOff (l : Launch) (E : zz_E) (a0 : Nat) (x1 : Int32) (x2 : Int32) (h0 : zz_sh a0 = 9) (M : zz_M) : zz_Met (zz_pi E) l yX9_comesOff wsX9_comesOff 3 E [.ref (E.1 + a0), .int x1, .int x2] M (f_X9_comesOff a0 x1 x2 M) := by
  refine zz_met (cc := cX9_comesOff) (nL := 7) (ret := (some .int)) (by decide) rfl (Nat.le_of_ble_eq_true rfl) ?_
  intro p e s m below meth c C hr ls hl
  have C : zz_C E RX9 cX9_comesOff 7 wsX9_comesOff p s m [.ref (E.1 + a0), .int x1, .int x2].toArray meth c := C
  have hl : lv_has ls 7 [(0, .ref (E.1 + a0)), (1, .int x1), (2, .int x2)] := hl
  unfold f_X9_comesOff
  refine zz_iload_n C dX9_comesOff_0 rfl (lv_at hl 2 rfl) ?_
  refine zz_istored_n (lv' := [(3, .int x2), (0, .ref (E.1 + a0)), (1, .int x1), (2, .int x2)]) C dX9_comesOff_1 rfl hl (by decide) rfl (fun ls hl => ?_)
  exact wb_X9_comesOff_2 C hr  zz_fuel a0 x1 x2 x2 h0 M ls (lv_sub hl [1, 2, 3, 0] rfl)
-- X9_dips ('X9', 'dips', '(II)V')
theorem in_X9_dips_X9 : ∀ w ∈ u_ws RX9 TX9 20, w ∈ wsX9_dips := fun _ h => List.mem_cons_of_mem _ (List.mem_append_right _ h)
theorem hdV_X9_comesOff : yX9_comesOff.cls = RX9 ∧ yX9_comesOff.cls ≠ "java/lang/invoke/MethodHandle" ∧ yX9_comesOff.cls ≠ "java/lang/invoke/VarHandle" ∧ (parseMethodDescriptor yX9_comesOff.desc).map (fun d => d.parameters.length) = some 2 := by decide +kernel
theorem hdV_X9_holdsMore : yX9_holdsMore.cls = RX9 ∧ yX9_holdsMore.cls ≠ "java/lang/invoke/MethodHandle" ∧ yX9_holdsMore.cls ≠ "java/lang/invoke/VarHandle" ∧ (parseMethodDescriptor yX9_holdsMore.desc).map (fun d => d.parameters.length) = some 2 := by decide +kernel
def b_X9_dips_140 (a0 : Nat) (x2 : Int32) (M : zz_M) : Option (Unit × zz_M) := zz_bd (f_X9_its a0 x2 (1 : Int32) M) (fun r_17 M_18 => (if r_17 ≤ (2 : Int32) then zz_bd (f_X9_setVat a0 x2 (1 : Int32) (0 : Int32) M_18) (fun _ M_20 => some ((), M_20)) else zz_bd (f_X9_setVat a0 x2 (1 : Int32) (r_17 - (2 : Int32)) M_18) (fun _ M_21 => some ((), M_21))))
set_option maxRecDepth 100000 in
set_option maxHeartbeats 4000000 in
theorem wb_X9_dips_140 {p : Program} {l : Launch} {e : Env} {s : State} {m : MethodId} {args : Array Value} {below : List Frame} {meth : Method} {c : Code} {E : zz_E} (C : zz_C E RX9 cX9_dips 5 wsX9_dips p s m args meth c) (hr : meth.sig.returnType = none) : ∀ (a0 : Nat) (x2 : Int32) (ha0 : zz_sh a0 = 9) (M : zz_M) (ls : Array Slot), lv_has ls 5 [(0, .ref (E.1 + a0)), (2, .int x2)] → zz_Z E p l e (zz_rm 4) s m args below meth c (zz_Q (zz_pv E) E below args s) (b_X9_dips_140 a0 x2 M) M (F0 m 140 ls []) := by
  intro a0 x2 ha0 M ls hl
  unfold b_X9_dips_140
  refine zz_aload_n C dX9_dips_140 rfl (lv_at hl 0 rfl) ?_
  refine zz_iload_n C dX9_dips_141 rfl (lv_at hl 1 rfl) ?_
  refine zz_iconst (v := 1) C dX9_dips_142 (by decide) ?_
  refine zz_callVi (As := [.int x2, .int (1 : Int32)]) (rest := []) C (m_X9_its l E a0 x2 (1 : Int32) ha0 M) (cwV 2 C.1.2.2.2.2 gX9_dips_X9_its rfl rfl rfl hdV_X9_its ⟨Nat.le_of_ble_eq_true rfl, Nat.le_of_ble_eq_true rfl⟩) (zz_lt ha0 (by decide)) (zz_c9 ha0) rfl rfl hl.1 rfl (Nat.le_of_ble_eq_true rfl) dX9_dips_143 (fun r_17 M_18 => ?_)
  refine zz_istored (lv' := [(4, .int r_17), (0, .ref (E.1 + a0)), (2, .int x2)]) C dX9_dips_146 hl (by decide) rfl (fun ls hl => ?_)
  refine zz_aload_n C dX9_dips_148 rfl (lv_at hl 1 rfl) ?_
  refine zz_iload_n C dX9_dips_149 rfl (lv_at hl 2 rfl) ?_
  refine zz_iconst (v := 1) C dX9_dips_150 (by decide) ?_
  refine zz_iload C dX9_dips_151 (lv_at hl 0 rfl) ?_
  refine zz_iconst (v := 2) C dX9_dips_153 (by decide) ?_
  refine zz_icmp_le (tgt := 164) C dX9_dips_154 (by decide) (fun c_19 => ?_) (fun c_19 => ?_)
  · refine zz_iconst (v := 0) C dX9_dips_164 (by decide) ?_
    refine zz_callVv (As := [.int x2, .int (1 : Int32), .int (0 : Int32)]) (rest := []) C (m_X9_setVat l E a0 x2 (1 : Int32) (0 : Int32) ha0 M_18) (cwV 3 C.1.2.2.2.2 gX9_dips_X9_setVat rfl rfl rfl hdV_X9_setVat ⟨Nat.le_of_ble_eq_true rfl, Nat.le_of_ble_eq_true rfl⟩) (zz_lt ha0 (by decide)) (zz_c9 ha0) rfl rfl hl.1 rfl (Nat.le_of_ble_eq_true rfl) dX9_dips_165 (fun _ M_20 => ?_)
    exact zz_vret C hr dX9_dips_168
  · refine zz_iload C dX9_dips_157 (lv_at hl 0 rfl) ?_
    refine zz_iconst (v := 2) C dX9_dips_159 (by decide) ?_
    refine zz_isub C dX9_dips_160 ?_
    refine zz_goto (tgt := 165) C dX9_dips_161 (by decide) ?_
    refine zz_callVv (As := [.int x2, .int (1 : Int32), .int (r_17 - (2 : Int32))]) (rest := []) C (m_X9_setVat l E a0 x2 (1 : Int32) (r_17 - (2 : Int32)) ha0 M_18) (cwV 3 C.1.2.2.2.2 gX9_dips_X9_setVat rfl rfl rfl hdV_X9_setVat ⟨Nat.le_of_ble_eq_true rfl, Nat.le_of_ble_eq_true rfl⟩) (zz_lt ha0 (by decide)) (zz_c9 ha0) rfl rfl hl.1 rfl (Nat.le_of_ble_eq_true rfl) dX9_dips_165 (fun _ M_21 => ?_)
    exact zz_vret C hr dX9_dips_168
def b_X9_dips_119 (a0 : Nat) (x2 : Int32) (st0 : Int32) (st1 : Int32) (st2 : Int32) (rt3 : Nat) (M : zz_M) : Option (Unit × zz_M) := (if zz_in st2 440 = true then zz_w (zz_si M rt3 (zz_n st2) (st1 + st0)) (fun M_36 => b_X9_dips_140  a0 x2 M_36) else none)
set_option maxRecDepth 100000 in
set_option maxHeartbeats 4000000 in
theorem wb_X9_dips_119 {p : Program} {l : Launch} {e : Env} {s : State} {m : MethodId} {args : Array Value} {below : List Frame} {meth : Method} {c : Code} {E : zz_E} (C : zz_C E RX9 cX9_dips 5 wsX9_dips p s m args meth c) (hr : meth.sig.returnType = none) : ∀ (a0 : Nat) (x2 : Int32) (st0 : Int32) (st1 : Int32) (st2 : Int32) (rt3 : Nat) (ha0 : zz_sh a0 = 9) (hrt3 : zz_sh rt3 = 13) (M : zz_M) (ls : Array Slot), lv_has ls 5 [(0, .ref (E.1 + a0)), (2, .int x2)] → zz_Z E p l e (zz_rm 4) s m args below meth c (zz_Q (zz_pv E) E below args s) (b_X9_dips_119 a0 x2 st0 st1 st2 rt3 M) M (F0 m 119 ls [.int st0, .int st1, .int st2, .ref (E.1 + rt3)]) := by
  intro a0 x2 st0 st1 st2 rt3 ha0 hrt3 M ls hl
  unfold b_X9_dips_119
  refine zz_iadd C dX9_dips_119 ?_
  refine zz_iast C (zz_lt hrt3 (by decide)) (fun _ => zz_c13 hrt3) dX9_dips_120 (fun M_36 => ?_)
  refine zz_goto (tgt := 140) C dX9_dips_121 (by decide) ?_
  exact wb_X9_dips_140 C hr  a0 x2 ha0 M_36 ls (lv_sub hl [0, 1] rfl)
def b_X9_dips_97 (a0 : Nat) (x1 : Int32) (x2 : Int32) (x4 : Int32) (st0 : Int32) (st1 : Int32) (rt2 : Nat) (M : zz_M) : Option (Unit × zz_M) := (if zz_in st1 440 = true then zz_w (zz_si M rt2 (zz_n st1) st0) (fun M_32 => zz_bd (f_X9_at x1 (1 : Int32) M_32) (fun r_33 M_34 => (if zz_in r_33 440 = true then (if x4 ≤ 0 then b_X9_dips_119  a0 x2 (0 : Int32) (zz_i M_34 130 (zz_n r_33)) r_33 130 M_34 else b_X9_dips_119  a0 x2 (1 : Int32) (zz_i M_34 130 (zz_n r_33)) r_33 130 M_34) else none))) else none)
set_option maxRecDepth 100000 in
set_option maxHeartbeats 4000000 in
theorem wb_X9_dips_97 {p : Program} {l : Launch} {e : Env} {s : State} {m : MethodId} {args : Array Value} {below : List Frame} {meth : Method} {c : Code} {E : zz_E} (C : zz_C E RX9 cX9_dips 5 wsX9_dips p s m args meth c) (hr : meth.sig.returnType = none) : ∀ (a0 : Nat) (x1 : Int32) (x2 : Int32) (x4 : Int32) (st0 : Int32) (st1 : Int32) (rt2 : Nat) (ha0 : zz_sh a0 = 9) (hrt2 : zz_sh rt2 = 13) (M : zz_M) (ls : Array Slot), lv_has ls 5 [(0, .ref (E.1 + a0)), (1, .int x1), (2, .int x2), (4, .int x4)] → zz_Z E p l e (zz_rm 4) s m args below meth c (zz_Q (zz_pv E) E below args s) (b_X9_dips_97 a0 x1 x2 x4 st0 st1 rt2 M) M (F0 m 97 ls [.int st0, .int st1, .ref (E.1 + rt2)]) := by
  intro a0 x1 x2 x4 st0 st1 rt2 ha0 hrt2 M ls hl
  unfold b_X9_dips_97
  refine zz_iast C (zz_lt hrt2 (by decide)) (fun _ => zz_c13 hrt2) dX9_dips_97 (fun M_32 => ?_)
  refine zz_aload_n C dX9_dips_98 rfl (lv_at hl 0 rfl) ?_
  refine zz_get C (zz_lt ha0 (by decide)) (zz_c9 ha0) rfl in_X9_dips_X9 0 (by decide) (List.mem_of_getElem? (i := 1) rfl) rfl dX9_dips_99 ?_
  refine zz_iload_n C dX9_dips_102 rfl (lv_at hl 1 rfl) ?_
  refine zz_iconst (v := 1) C dX9_dips_103 (by decide) ?_
  refine zz_callSi (As := [.int x1, .int (1 : Int32)]) (rest := [.ref (E.1 + 130)]) C (m_X9_at l E x1 (1 : Int32)  M_32) (va_cwS 2 C.1.2.2.2.2 gX9_dips_X9_at rfl rfl rfl hdS_X9_at ⟨Nat.le_of_ble_eq_true rfl, Nat.le_of_ble_eq_true rfl⟩) rfl hl.1 rfl (Nat.le_of_ble_eq_true rfl) dX9_dips_104 (fun r_33 M_34 => ?_)
  refine zz_dup2_11 C dX9_dips_107 rfl rfl ?_
  refine zz_iald C (zz_lt (zz_s9_0 ha0) (by decide)) (zz_c13 (zz_s9_0 ha0)) dX9_dips_108 ?_
  refine zz_iload C dX9_dips_109 (lv_at hl 3 rfl) ?_
  refine zz_if_le (tgt := 118) C dX9_dips_111 (by decide) (fun c_35 => ?_) (fun c_35 => ?_)
  · refine zz_iconst (v := 0) C dX9_dips_118 (by decide) ?_
    exact wb_X9_dips_119 C hr  a0 x2 (0 : Int32) (zz_i M_34 130 (zz_n r_33)) r_33 130 ha0 (zz_s9_0 ha0) M_34 ls (lv_sub hl [0, 2] rfl)
  · refine zz_iconst (v := 1) C dX9_dips_114 (by decide) ?_
    refine zz_goto (tgt := 119) C dX9_dips_115 (by decide) ?_
    exact wb_X9_dips_119 C hr  a0 x2 (1 : Int32) (zz_i M_34 130 (zz_n r_33)) r_33 130 ha0 (zz_s9_0 ha0) M_34 ls (lv_sub hl [0, 2] rfl)
def b_X9_dips_47 (a0 : Nat) (x1 : Int32) (x2 : Int32) (st0 : Int32) (M : zz_M) : Option (Unit × zz_M) := zz_bd (f_X9_its a0 x2 (2 : Int32) M) (fun r_22 M_23 => zz_bd (f_X9_setVat a0 x2 (2 : Int32) (r_22 - st0) M_23) (fun _ M_24 => zz_bd (f_X9_many a0 x1 M_24) (fun r_25 M_26 => zz_bd (f_X9_at x1 ((2 : Int32) + r_25) M_26) (fun r_27 M_28 => zz_bd (f_X9_its a0 x2 (0 : Int32) M_28) (fun r_29 M_30 => (if r_29 = (1 : Int32) then b_X9_dips_97  a0 x1 x2 st0 (-st0) r_27 130 M_30 else b_X9_dips_97  a0 x1 x2 st0 st0 r_27 130 M_30))))))
set_option maxRecDepth 100000 in
set_option maxHeartbeats 4000000 in
theorem wb_X9_dips_47 {p : Program} {l : Launch} {e : Env} {s : State} {m : MethodId} {args : Array Value} {below : List Frame} {meth : Method} {c : Code} {E : zz_E} (C : zz_C E RX9 cX9_dips 5 wsX9_dips p s m args meth c) (hr : meth.sig.returnType = none) : ∀ (a0 : Nat) (x1 : Int32) (x2 : Int32) (st0 : Int32) (ha0 : zz_sh a0 = 9) (M : zz_M) (ls : Array Slot), lv_has ls 5 [(0, .ref (E.1 + a0)), (1, .int x1), (2, .int x2)] → zz_Z E p l e (zz_rm 4) s m args below meth c (zz_Q (zz_pv E) E below args s) (b_X9_dips_47 a0 x1 x2 st0 M) M (F0 m 47 ls [.int st0]) := by
  intro a0 x1 x2 st0 ha0 M ls hl
  unfold b_X9_dips_47
  refine zz_istored (lv' := [(4, .int st0), (0, .ref (E.1 + a0)), (1, .int x1), (2, .int x2)]) C dX9_dips_47 hl (by decide) rfl (fun ls hl => ?_)
  refine zz_aload_n C dX9_dips_49 rfl (lv_at hl 1 rfl) ?_
  refine zz_iload_n C dX9_dips_50 rfl (lv_at hl 3 rfl) ?_
  refine zz_iconst (v := 2) C dX9_dips_51 (by decide) ?_
  refine zz_aload_n C dX9_dips_52 rfl (lv_at hl 1 rfl) ?_
  refine zz_iload_n C dX9_dips_53 rfl (lv_at hl 3 rfl) ?_
  refine zz_iconst (v := 2) C dX9_dips_54 (by decide) ?_
  refine zz_callVi (As := [.int x2, .int (2 : Int32)]) (rest := [.int (2 : Int32), .int x2, .ref (E.1 + a0)]) C (m_X9_its l E a0 x2 (2 : Int32) ha0 M) (cwV 2 C.1.2.2.2.2 gX9_dips_X9_its rfl rfl rfl hdV_X9_its ⟨Nat.le_of_ble_eq_true rfl, Nat.le_of_ble_eq_true rfl⟩) (zz_lt ha0 (by decide)) (zz_c9 ha0) rfl rfl hl.1 rfl (Nat.le_of_ble_eq_true rfl) dX9_dips_55 (fun r_22 M_23 => ?_)
  refine zz_iload C dX9_dips_58 (lv_at hl 0 rfl) ?_
  refine zz_isub C dX9_dips_60 ?_
  refine zz_callVv (As := [.int x2, .int (2 : Int32), .int (r_22 - st0)]) (rest := []) C (m_X9_setVat l E a0 x2 (2 : Int32) (r_22 - st0) ha0 M_23) (cwV 3 C.1.2.2.2.2 gX9_dips_X9_setVat rfl rfl rfl hdV_X9_setVat ⟨Nat.le_of_ble_eq_true rfl, Nat.le_of_ble_eq_true rfl⟩) (zz_lt ha0 (by decide)) (zz_c9 ha0) rfl rfl hl.1 rfl (Nat.le_of_ble_eq_true rfl) dX9_dips_61 (fun _ M_24 => ?_)
  refine zz_aload_n C dX9_dips_64 rfl (lv_at hl 1 rfl) ?_
  refine zz_get C (zz_lt ha0 (by decide)) (zz_c9 ha0) rfl in_X9_dips_X9 0 (by decide) (List.mem_of_getElem? (i := 1) rfl) rfl dX9_dips_65 ?_
  refine zz_iload_n C dX9_dips_68 rfl (lv_at hl 2 rfl) ?_
  refine zz_iconst (v := 2) C dX9_dips_69 (by decide) ?_
  refine zz_aload_n C dX9_dips_70 rfl (lv_at hl 1 rfl) ?_
  refine zz_iload_n C dX9_dips_71 rfl (lv_at hl 2 rfl) ?_
  refine zz_callVi (As := [.int x1]) (rest := [.int (2 : Int32), .int x1, .ref (E.1 + 130)]) C (m_X9_many l E a0 x1 ha0 M_24) (cwV 1 C.1.2.2.2.2 gX9_dips_X9_many rfl rfl rfl hdV_X9_many ⟨Nat.le_of_ble_eq_true rfl, Nat.le_of_ble_eq_true rfl⟩) (zz_lt ha0 (by decide)) (zz_c9 ha0) rfl rfl hl.1 rfl (Nat.le_of_ble_eq_true rfl) dX9_dips_72 (fun r_25 M_26 => ?_)
  refine zz_iadd C dX9_dips_75 ?_
  refine zz_callSi (As := [.int x1, .int ((2 : Int32) + r_25)]) (rest := [.ref (E.1 + 130)]) C (m_X9_at l E x1 ((2 : Int32) + r_25)  M_26) (va_cwS 2 C.1.2.2.2.2 gX9_dips_X9_at rfl rfl rfl hdS_X9_at ⟨Nat.le_of_ble_eq_true rfl, Nat.le_of_ble_eq_true rfl⟩) rfl hl.1 rfl (Nat.le_of_ble_eq_true rfl) dX9_dips_76 (fun r_27 M_28 => ?_)
  refine zz_aload_n C dX9_dips_79 rfl (lv_at hl 1 rfl) ?_
  refine zz_iload_n C dX9_dips_80 rfl (lv_at hl 3 rfl) ?_
  refine zz_iconst (v := 0) C dX9_dips_81 (by decide) ?_
  refine zz_callVi (As := [.int x2, .int (0 : Int32)]) (rest := [.int r_27, .ref (E.1 + 130)]) C (m_X9_its l E a0 x2 (0 : Int32) ha0 M_28) (cwV 2 C.1.2.2.2.2 gX9_dips_X9_its rfl rfl rfl hdV_X9_its ⟨Nat.le_of_ble_eq_true rfl, Nat.le_of_ble_eq_true rfl⟩) (zz_lt ha0 (by decide)) (zz_c9 ha0) rfl rfl hl.1 rfl (Nat.le_of_ble_eq_true rfl) dX9_dips_82 (fun r_29 M_30 => ?_)
  refine zz_iconst (v := 1) C dX9_dips_85 (by decide) ?_
  refine zz_icmp_ne (tgt := 95) C dX9_dips_86 (by decide) (fun c_31 => ?_) (fun c_31 => ?_)
  · refine zz_iload C dX9_dips_89 (lv_at hl 0 rfl) ?_
    refine zz_ineg C dX9_dips_91 ?_
    refine zz_goto (tgt := 97) C dX9_dips_92 (by decide) ?_
    exact wb_X9_dips_97 C hr  a0 x1 x2 st0 (-st0) r_27 130 ha0 (zz_s9_0 ha0) M_30 ls (lv_sub hl [1, 2, 3, 0] rfl)
  · refine zz_iload C dX9_dips_95 (lv_at hl 0 rfl) ?_
    exact wb_X9_dips_97 C hr  a0 x1 x2 st0 st0 r_27 130 ha0 (zz_s9_0 ha0) M_30 ls (lv_sub hl [1, 2, 3, 0] rfl)
def f_X9_dips (a0 : Nat) (x1 : Int32) (x2 : Int32) (M : zz_M) : Option (Unit × zz_M) := zz_bd (f_X9_many a0 x1 M) (fun r_1 M_2 => (if r_1 = (40 : Int32) then some ((), M_2) else zz_bd (f_X9_its a0 x2 (1 : Int32) M_2) (fun r_4 M_5 => zz_bd (f_X9_takesAt a0 x1 r_4 M_5) (fun r_6 M_7 => (if r_6 ≤ 0 then zz_bd (f_X9_comesOff a0 x1 (-r_6) M_7) (fun r_9 M_10 => zz_bd (f_X9_holdsMore a0 x2 r_9 M_10) (fun _ M_11 => b_X9_dips_140  a0 x2 M_11)) else zz_bd (f_X9_its a0 x2 (2 : Int32) M_7) (fun r_12 M_13 => (if r_12 ≤ r_6 then zz_bd (f_X9_its a0 x2 (2 : Int32) M_13) (fun r_15 M_16 => b_X9_dips_47  a0 x1 x2 r_15 M_16) else b_X9_dips_47  a0 x1 x2 r_6 M_13)))))))
set_option maxRecDepth 100000 in
set_option maxHeartbeats 4000000 in
theorem m_X9_dips (l : Launch) (E : zz_E) (a0 : Nat) (x1 : Int32) (x2 : Int32) (h0 : zz_sh a0 = 9) (M : zz_M) : zz_Met (zz_pv E) l yX9_dips wsX9_dips 4 E [.ref (E.1 + a0), .int x1, .int x2] M (f_X9_dips a0 x1 x2 M) := by
  refine zz_met (cc := cX9_dips) (nL := 5) (ret := none) (by decide) rfl (Nat.le_of_ble_eq_true rfl) ?_
  intro p e s m below meth c C hr ls hl
  have C : zz_C E RX9 cX9_dips 5 wsX9_dips p s m [.ref (E.1 + a0), .int x1, .int x2].toArray meth c := C
  have hl : lv_has ls 5 [(0, .ref (E.1 + a0)), (1, .int x1), (2, .int x2)] := hl
  unfold f_X9_dips
  refine zz_aload_n C dX9_dips_0 rfl (lv_at hl 0 rfl) ?_
  refine zz_iload_n C dX9_dips_1 rfl (lv_at hl 1 rfl) ?_
  refine zz_callVi (As := [.int x1]) (rest := []) C (m_X9_many l E a0 x1 h0 M) (cwV 1 C.1.2.2.2.2 gX9_dips_X9_many rfl rfl rfl hdV_X9_many ⟨Nat.le_of_ble_eq_true rfl, Nat.le_of_ble_eq_true rfl⟩) (zz_lt h0 (by decide)) (zz_c9 h0) rfl rfl hl.1 rfl (Nat.le_of_ble_eq_true rfl) dX9_dips_2 (fun r_1 M_2 => ?_)
  refine zz_bipush (v := 40) C dX9_dips_5 (by decide) ?_
  refine zz_icmp_ne (tgt := 11) C dX9_dips_7 (by decide) (fun c_3 => ?_) (fun c_3 => ?_)
  · exact zz_vret C hr dX9_dips_10
  · refine zz_aload_n C dX9_dips_11 rfl (lv_at hl 0 rfl) ?_
    refine zz_iload_n C dX9_dips_12 rfl (lv_at hl 1 rfl) ?_
    refine zz_aload_n C dX9_dips_13 rfl (lv_at hl 0 rfl) ?_
    refine zz_iload_n C dX9_dips_14 rfl (lv_at hl 2 rfl) ?_
    refine zz_iconst (v := 1) C dX9_dips_15 (by decide) ?_
    refine zz_callVi (As := [.int x2, .int (1 : Int32)]) (rest := [.int x1, .ref (E.1 + a0)]) C (m_X9_its l E a0 x2 (1 : Int32) h0 M_2) (cwV 2 C.1.2.2.2.2 gX9_dips_X9_its rfl rfl rfl hdV_X9_its ⟨Nat.le_of_ble_eq_true rfl, Nat.le_of_ble_eq_true rfl⟩) (zz_lt h0 (by decide)) (zz_c9 h0) rfl rfl hl.1 rfl (Nat.le_of_ble_eq_true rfl) dX9_dips_16 (fun r_4 M_5 => ?_)
    refine zz_callVi (As := [.int x1, .int r_4]) (rest := []) C (m_X9_takesAt l E a0 x1 r_4 h0 M_5) (cwV 2 C.1.2.2.2.2 gX9_dips_X9_takesAt rfl rfl rfl hdV_X9_takesAt ⟨Nat.le_of_ble_eq_true rfl, Nat.le_of_ble_eq_true rfl⟩) (zz_lt h0 (by decide)) (zz_c9 h0) rfl rfl hl.1 rfl (Nat.le_of_ble_eq_true rfl) dX9_dips_19 (fun r_6 M_7 => ?_)
    refine zz_istored_n (lv' := [(3, .int r_6), (0, .ref (E.1 + a0)), (1, .int x1), (2, .int x2)]) C dX9_dips_22 rfl hl (by decide) rfl (fun ls hl => ?_)
    refine zz_iload_n C dX9_dips_23 rfl (lv_at hl 0 rfl) ?_
    refine zz_if_le (tgt := 124) C dX9_dips_24 (by decide) (fun c_8 => ?_) (fun c_8 => ?_)
    · refine zz_aload_n C dX9_dips_124 rfl (lv_at hl 1 rfl) ?_
      refine zz_iload_n C dX9_dips_125 rfl (lv_at hl 2 rfl) ?_
      refine zz_iload_n C dX9_dips_126 rfl (lv_at hl 0 rfl) ?_
      refine zz_ineg C dX9_dips_127 ?_
      refine zz_callVi (As := [.int x1, .int (-r_6)]) (rest := []) C (m_X9_comesOff l E a0 x1 (-r_6) h0 M_7) (cwV 2 C.1.2.2.2.2 gX9_dips_X9_comesOff rfl rfl rfl hdV_X9_comesOff ⟨Nat.le_of_ble_eq_true rfl, Nat.le_of_ble_eq_true rfl⟩) (zz_lt h0 (by decide)) (zz_c9 h0) rfl rfl hl.1 rfl (Nat.le_of_ble_eq_true rfl) dX9_dips_128 (fun r_9 M_10 => ?_)
      refine zz_istored (lv' := [(4, .int r_9), (3, .int r_6), (0, .ref (E.1 + a0)), (1, .int x1), (2, .int x2)]) C dX9_dips_131 hl (by decide) rfl (fun ls hl => ?_)
      refine zz_aload_n C dX9_dips_133 rfl (lv_at hl 2 rfl) ?_
      refine zz_iload_n C dX9_dips_134 rfl (lv_at hl 4 rfl) ?_
      refine zz_iload C dX9_dips_135 (lv_at hl 0 rfl) ?_
      refine zz_callVv (As := [.int x2, .int r_9]) (rest := []) C (m_X9_holdsMore l E a0 x2 r_9 h0 M_10) (cwV 2 C.1.2.2.2.2 gX9_dips_X9_holdsMore rfl rfl rfl hdV_X9_holdsMore ⟨Nat.le_of_ble_eq_true rfl, Nat.le_of_ble_eq_true rfl⟩) (zz_lt h0 (by decide)) (zz_c9 h0) rfl rfl hl.1 rfl (Nat.le_of_ble_eq_true rfl) dX9_dips_137 (fun _ M_11 => ?_)
      exact wb_X9_dips_140 C hr  a0 x2 h0 M_11 ls (lv_sub hl [2, 4] rfl)
    · refine zz_iload_n C dX9_dips_27 rfl (lv_at hl 0 rfl) ?_
      refine zz_aload_n C dX9_dips_28 rfl (lv_at hl 1 rfl) ?_
      refine zz_iload_n C dX9_dips_29 rfl (lv_at hl 3 rfl) ?_
      refine zz_iconst (v := 2) C dX9_dips_30 (by decide) ?_
      refine zz_callVi (As := [.int x2, .int (2 : Int32)]) (rest := [.int r_6]) C (m_X9_its l E a0 x2 (2 : Int32) h0 M_7) (cwV 2 C.1.2.2.2.2 gX9_dips_X9_its rfl rfl rfl hdV_X9_its ⟨Nat.le_of_ble_eq_true rfl, Nat.le_of_ble_eq_true rfl⟩) (zz_lt h0 (by decide)) (zz_c9 h0) rfl rfl hl.1 rfl (Nat.le_of_ble_eq_true rfl) dX9_dips_31 (fun r_12 M_13 => ?_)
      refine zz_icmp_ge (tgt := 41) C dX9_dips_34 (by decide) (fun c_14 => ?_) (fun c_14 => ?_)
      · refine zz_aload_n C dX9_dips_41 rfl (lv_at hl 1 rfl) ?_
        refine zz_iload_n C dX9_dips_42 rfl (lv_at hl 3 rfl) ?_
        refine zz_iconst (v := 2) C dX9_dips_43 (by decide) ?_
        refine zz_callVi (As := [.int x2, .int (2 : Int32)]) (rest := []) C (m_X9_its l E a0 x2 (2 : Int32) h0 M_13) (cwV 2 C.1.2.2.2.2 gX9_dips_X9_its rfl rfl rfl hdV_X9_its ⟨Nat.le_of_ble_eq_true rfl, Nat.le_of_ble_eq_true rfl⟩) (zz_lt h0 (by decide)) (zz_c9 h0) rfl rfl hl.1 rfl (Nat.le_of_ble_eq_true rfl) dX9_dips_44 (fun r_15 M_16 => ?_)
        exact wb_X9_dips_47 C hr  a0 x1 x2 r_15 h0 M_16 ls (lv_sub hl [1, 2, 3] rfl)
      · refine zz_iload_n C dX9_dips_37 rfl (lv_at hl 0 rfl) ?_
        refine zz_goto (tgt := 47) C dX9_dips_38 (by decide) ?_
        exact wb_X9_dips_47 C hr  a0 x1 x2 r_6 h0 M_13 ls (lv_sub hl [1, 2, 3] rfl)
-- X9_dip ('X9', 'dip', '(II)I')
theorem hdV_X9_dips : yX9_dips.cls = RX9 ∧ yX9_dips.cls ≠ "java/lang/invoke/MethodHandle" ∧ yX9_dips.cls ≠ "java/lang/invoke/VarHandle" ∧ (parseMethodDescriptor yX9_dips.desc).map (fun d => d.parameters.length) = some 2 := by decide +kernel
def f_X9_dip (a0 : Nat) (x1 : Int32) (x2 : Int32) (M : zz_M) : Option (Int32 × zz_M) := zz_bd (f_X9_isCandle a0 x1 M) (fun r_1 M_2 => (if r_1 = 0 then zz_bd (f_X9_finds a0 (-1000000001 : Int32) M_2) (fun r_4 M_5 => some (r_4, M_5)) else zz_bd (f_X9_isVat x2 M_2) (fun r_6 M_7 => (if r_6 = 0 then zz_bd (f_X9_finds a0 (-1000000001 : Int32) M_7) (fun r_17 M_18 => some (r_17, M_18)) else zz_bd (f_X9_many a0 x1 M_7) (fun r_9 M_10 => (if r_9 = (40 : Int32) then zz_bd (f_X9_finds a0 (-1000000005 : Int32) M_10) (fun r_15 M_16 => some (r_15, M_16)) else zz_bd (f_X9_dips a0 x1 x2 M_10) (fun _ M_12 => zz_bd (f_X9_grams a0 x1 (0 : Int32) M_12) (fun r_13 M_14 => some (r_13, M_14)))))))))
set_option maxRecDepth 100000 in
set_option maxHeartbeats 4000000 in
theorem m_X9_dip (l : Launch) (E : zz_E) (a0 : Nat) (x1 : Int32) (x2 : Int32) (h0 : zz_sh a0 = 9) (M : zz_M) : zz_Met (zz_pi E) l yX9_dip wsX9_dip 5 E [.ref (E.1 + a0), .int x1, .int x2] M (f_X9_dip a0 x1 x2 M) := by
  refine zz_met (cc := cX9_dip) (nL := 3) (ret := (some .int)) (by decide) rfl (Nat.le_of_ble_eq_true rfl) ?_
  intro p e s m below meth c C hr ls hl
  have C : zz_C E RX9 cX9_dip 3 wsX9_dip p s m [.ref (E.1 + a0), .int x1, .int x2].toArray meth c := C
  have hl : lv_has ls 3 [(0, .ref (E.1 + a0)), (1, .int x1), (2, .int x2)] := hl
  unfold f_X9_dip
  refine zz_aload_n C dX9_dip_0 rfl (lv_at hl 0 rfl) ?_
  refine zz_iload_n C dX9_dip_1 rfl (lv_at hl 1 rfl) ?_
  refine zz_callVi (As := [.int x1]) (rest := []) C (m_X9_isCandle l E a0 x1 h0 M) (cwV 1 C.1.2.2.2.2 gX9_dip_X9_isCandle rfl rfl rfl hdV_X9_isCandle ⟨Nat.le_of_ble_eq_true rfl, Nat.le_of_ble_eq_true rfl⟩) (zz_lt h0 (by decide)) (zz_c9 h0) rfl rfl hl.1 rfl (Nat.le_of_ble_eq_true rfl) dX9_dip_2 (fun r_1 M_2 => ?_)
  refine zz_if_eq (tgt := 15) C dX9_dip_5 (by decide) (fun c_3 => ?_) (fun c_3 => ?_)
  · refine zz_aload_n C dX9_dip_15 rfl (lv_at hl 0 rfl) ?_
    refine zz_ldc (v := -1000000001) C (List.mem_of_getElem? (i := 1) rfl) dX9_dip_16 ?_
    refine zz_callVi (As := [.int (-1000000001 : Int32)]) (rest := []) C (m_X9_finds l E a0 (-1000000001 : Int32) h0 M_2) (cwV 1 C.1.2.2.2.2 gX9_dip_X9_finds rfl rfl rfl hdV_X9_finds ⟨Nat.le_of_ble_eq_true rfl, Nat.le_of_ble_eq_true rfl⟩) (zz_lt h0 (by decide)) (zz_c9 h0) rfl rfl hl.1 rfl (Nat.le_of_ble_eq_true rfl) dX9_dip_18 (fun r_4 M_5 => ?_)
    exact zz_iret C hr dX9_dip_21
  · refine zz_iload_n C dX9_dip_8 rfl (lv_at hl 2 rfl) ?_
    refine zz_callSi (As := [.int x2]) (rest := []) C (m_X9_isVat l E x2  M_2) (va_cwS 1 C.1.2.2.2.2 gX9_dip_X9_isVat rfl rfl rfl hdS_X9_isVat ⟨Nat.le_of_ble_eq_true rfl, Nat.le_of_ble_eq_true rfl⟩) rfl hl.1 rfl (Nat.le_of_ble_eq_true rfl) dX9_dip_9 (fun r_6 M_7 => ?_)
    refine zz_if_ne (tgt := 22) C dX9_dip_12 (by decide) (fun c_8 => ?_) (fun c_8 => ?_)
    · refine zz_aload_n C dX9_dip_15 rfl (lv_at hl 0 rfl) ?_
      refine zz_ldc (v := -1000000001) C (List.mem_of_getElem? (i := 1) rfl) dX9_dip_16 ?_
      refine zz_callVi (As := [.int (-1000000001 : Int32)]) (rest := []) C (m_X9_finds l E a0 (-1000000001 : Int32) h0 M_7) (cwV 1 C.1.2.2.2.2 gX9_dip_X9_finds rfl rfl rfl hdV_X9_finds ⟨Nat.le_of_ble_eq_true rfl, Nat.le_of_ble_eq_true rfl⟩) (zz_lt h0 (by decide)) (zz_c9 h0) rfl rfl hl.1 rfl (Nat.le_of_ble_eq_true rfl) dX9_dip_18 (fun r_17 M_18 => ?_)
      exact zz_iret C hr dX9_dip_21
    · refine zz_aload_n C dX9_dip_22 rfl (lv_at hl 0 rfl) ?_
      refine zz_iload_n C dX9_dip_23 rfl (lv_at hl 1 rfl) ?_
      refine zz_callVi (As := [.int x1]) (rest := []) C (m_X9_many l E a0 x1 h0 M_7) (cwV 1 C.1.2.2.2.2 gX9_dip_X9_many rfl rfl rfl hdV_X9_many ⟨Nat.le_of_ble_eq_true rfl, Nat.le_of_ble_eq_true rfl⟩) (zz_lt h0 (by decide)) (zz_c9 h0) rfl rfl hl.1 rfl (Nat.le_of_ble_eq_true rfl) dX9_dip_24 (fun r_9 M_10 => ?_)
      refine zz_bipush (v := 40) C dX9_dip_27 (by decide) ?_
      refine zz_icmp_ne (tgt := 39) C dX9_dip_29 (by decide) (fun c_11 => ?_) (fun c_11 => ?_)
      · refine zz_aload_n C dX9_dip_32 rfl (lv_at hl 0 rfl) ?_
        refine zz_ldc (v := -1000000005) C (List.mem_of_getElem? (i := 2) rfl) dX9_dip_33 ?_
        refine zz_callVi (As := [.int (-1000000005 : Int32)]) (rest := []) C (m_X9_finds l E a0 (-1000000005 : Int32) h0 M_10) (cwV 1 C.1.2.2.2.2 gX9_dip_X9_finds rfl rfl rfl hdV_X9_finds ⟨Nat.le_of_ble_eq_true rfl, Nat.le_of_ble_eq_true rfl⟩) (zz_lt h0 (by decide)) (zz_c9 h0) rfl rfl hl.1 rfl (Nat.le_of_ble_eq_true rfl) dX9_dip_35 (fun r_15 M_16 => ?_)
        exact zz_iret C hr dX9_dip_38
      · refine zz_aload_n C dX9_dip_39 rfl (lv_at hl 0 rfl) ?_
        refine zz_iload_n C dX9_dip_40 rfl (lv_at hl 1 rfl) ?_
        refine zz_iload_n C dX9_dip_41 rfl (lv_at hl 2 rfl) ?_
        refine zz_callVv (As := [.int x1, .int x2]) (rest := []) C (m_X9_dips l E a0 x1 x2 h0 M_10) (cwV 2 C.1.2.2.2.2 gX9_dip_X9_dips rfl rfl rfl hdV_X9_dips ⟨Nat.le_of_ble_eq_true rfl, Nat.le_of_ble_eq_true rfl⟩) (zz_lt h0 (by decide)) (zz_c9 h0) rfl rfl hl.1 rfl (Nat.le_of_ble_eq_true rfl) dX9_dip_42 (fun _ M_12 => ?_)
        refine zz_aload_n C dX9_dip_45 rfl (lv_at hl 0 rfl) ?_
        refine zz_iload_n C dX9_dip_46 rfl (lv_at hl 1 rfl) ?_
        refine zz_iconst (v := 0) C dX9_dip_47 (by decide) ?_
        refine zz_callVi (As := [.int x1, .int (0 : Int32)]) (rest := []) C (m_X9_grams l E a0 x1 (0 : Int32) h0 M_12) (cwV 2 C.1.2.2.2.2 gX9_dip_X9_grams rfl rfl rfl hdV_X9_grams ⟨Nat.le_of_ble_eq_true rfl, Nat.le_of_ble_eq_true rfl⟩) (zz_lt h0 (by decide)) (zz_c9 h0) rfl rfl hl.1 rfl (Nat.le_of_ble_eq_true rfl) dX9_dip_48 (fun r_13 M_14 => ?_)
        exact zz_iret C hr dX9_dip_51
-- X9_melt ('X9', 'melt', '(II)I')
theorem in_X9_melt_X9 : ∀ w ∈ u_ws RX9 TX9 20, w ∈ wsX9_melt := fun _ h => List.mem_cons_of_mem _ (List.mem_append_right _ h)
def f_X9_melt (a0 : Nat) (x1 : Int32) (x2 : Int32) (M : zz_M) : Option (Int32 × zz_M) := zz_bd (f_X9_isCandle a0 x1 M) (fun r_1 M_2 => (if r_1 = 0 then zz_bd (f_X9_finds a0 (-1000000001 : Int32) M_2) (fun r_4 M_5 => some (r_4, M_5)) else zz_bd (f_X9_isVat x2 M_2) (fun r_6 M_7 => (if r_6 = 0 then zz_bd (f_X9_finds a0 (-1000000001 : Int32) M_7) (fun r_15 M_16 => some (r_15, M_16)) else zz_bd (f_X9_grams a0 x1 (0 : Int32) M_7) (fun r_9 M_10 => zz_bd (f_X9_at x1 (1 : Int32) M_10) (fun r_11 M_12 => (if zz_in r_11 440 = true then zz_w (zz_si M_12 130 (zz_n r_11) (0 : Int32)) (fun M_13 => zz_bd (f_X9_holdsMore a0 x2 r_9 M_13) (fun _ M_14 => some (r_9, M_14))) else none)))))))
set_option maxRecDepth 100000 in
set_option maxHeartbeats 4000000 in
theorem m_X9_melt (l : Launch) (E : zz_E) (a0 : Nat) (x1 : Int32) (x2 : Int32) (h0 : zz_sh a0 = 9) (M : zz_M) : zz_Met (zz_pi E) l yX9_melt wsX9_melt 4 E [.ref (E.1 + a0), .int x1, .int x2] M (f_X9_melt a0 x1 x2 M) := by
  refine zz_met (cc := cX9_melt) (nL := 4) (ret := (some .int)) (by decide) rfl (Nat.le_of_ble_eq_true rfl) ?_
  intro p e s m below meth c C hr ls hl
  have C : zz_C E RX9 cX9_melt 4 wsX9_melt p s m [.ref (E.1 + a0), .int x1, .int x2].toArray meth c := C
  have hl : lv_has ls 4 [(0, .ref (E.1 + a0)), (1, .int x1), (2, .int x2)] := hl
  unfold f_X9_melt
  refine zz_aload_n C dX9_melt_0 rfl (lv_at hl 0 rfl) ?_
  refine zz_iload_n C dX9_melt_1 rfl (lv_at hl 1 rfl) ?_
  refine zz_callVi (As := [.int x1]) (rest := []) C (m_X9_isCandle l E a0 x1 h0 M) (cwV 1 C.1.2.2.2.2 gX9_melt_X9_isCandle rfl rfl rfl hdV_X9_isCandle ⟨Nat.le_of_ble_eq_true rfl, Nat.le_of_ble_eq_true rfl⟩) (zz_lt h0 (by decide)) (zz_c9 h0) rfl rfl hl.1 rfl (Nat.le_of_ble_eq_true rfl) dX9_melt_2 (fun r_1 M_2 => ?_)
  refine zz_if_eq (tgt := 15) C dX9_melt_5 (by decide) (fun c_3 => ?_) (fun c_3 => ?_)
  · refine zz_aload_n C dX9_melt_15 rfl (lv_at hl 0 rfl) ?_
    refine zz_ldc (v := -1000000001) C (List.mem_of_getElem? (i := 1) rfl) dX9_melt_16 ?_
    refine zz_callVi (As := [.int (-1000000001 : Int32)]) (rest := []) C (m_X9_finds l E a0 (-1000000001 : Int32) h0 M_2) (cwV 1 C.1.2.2.2.2 gX9_melt_X9_finds rfl rfl rfl hdV_X9_finds ⟨Nat.le_of_ble_eq_true rfl, Nat.le_of_ble_eq_true rfl⟩) (zz_lt h0 (by decide)) (zz_c9 h0) rfl rfl hl.1 rfl (Nat.le_of_ble_eq_true rfl) dX9_melt_18 (fun r_4 M_5 => ?_)
    exact zz_iret C hr dX9_melt_21
  · refine zz_iload_n C dX9_melt_8 rfl (lv_at hl 2 rfl) ?_
    refine zz_callSi (As := [.int x2]) (rest := []) C (m_X9_isVat l E x2  M_2) (va_cwS 1 C.1.2.2.2.2 gX9_melt_X9_isVat rfl rfl rfl hdS_X9_isVat ⟨Nat.le_of_ble_eq_true rfl, Nat.le_of_ble_eq_true rfl⟩) rfl hl.1 rfl (Nat.le_of_ble_eq_true rfl) dX9_melt_9 (fun r_6 M_7 => ?_)
    refine zz_if_ne (tgt := 22) C dX9_melt_12 (by decide) (fun c_8 => ?_) (fun c_8 => ?_)
    · refine zz_aload_n C dX9_melt_15 rfl (lv_at hl 0 rfl) ?_
      refine zz_ldc (v := -1000000001) C (List.mem_of_getElem? (i := 1) rfl) dX9_melt_16 ?_
      refine zz_callVi (As := [.int (-1000000001 : Int32)]) (rest := []) C (m_X9_finds l E a0 (-1000000001 : Int32) h0 M_7) (cwV 1 C.1.2.2.2.2 gX9_melt_X9_finds rfl rfl rfl hdV_X9_finds ⟨Nat.le_of_ble_eq_true rfl, Nat.le_of_ble_eq_true rfl⟩) (zz_lt h0 (by decide)) (zz_c9 h0) rfl rfl hl.1 rfl (Nat.le_of_ble_eq_true rfl) dX9_melt_18 (fun r_15 M_16 => ?_)
      exact zz_iret C hr dX9_melt_21
    · refine zz_aload_n C dX9_melt_22 rfl (lv_at hl 0 rfl) ?_
      refine zz_iload_n C dX9_melt_23 rfl (lv_at hl 1 rfl) ?_
      refine zz_iconst (v := 0) C dX9_melt_24 (by decide) ?_
      refine zz_callVi (As := [.int x1, .int (0 : Int32)]) (rest := []) C (m_X9_grams l E a0 x1 (0 : Int32) h0 M_7) (cwV 2 C.1.2.2.2.2 gX9_melt_X9_grams rfl rfl rfl hdV_X9_grams ⟨Nat.le_of_ble_eq_true rfl, Nat.le_of_ble_eq_true rfl⟩) (zz_lt h0 (by decide)) (zz_c9 h0) rfl rfl hl.1 rfl (Nat.le_of_ble_eq_true rfl) dX9_melt_25 (fun r_9 M_10 => ?_)
      refine zz_istored_n (lv' := [(3, .int r_9), (0, .ref (E.1 + a0)), (1, .int x1), (2, .int x2)]) C dX9_melt_28 rfl hl (by decide) rfl (fun ls hl => ?_)
      refine zz_aload_n C dX9_melt_29 rfl (lv_at hl 1 rfl) ?_
      refine zz_get C (zz_lt h0 (by decide)) (zz_c9 h0) rfl in_X9_melt_X9 0 (by decide) (List.mem_of_getElem? (i := 2) rfl) rfl dX9_melt_30 ?_
      refine zz_iload_n C dX9_melt_33 rfl (lv_at hl 2 rfl) ?_
      refine zz_iconst (v := 1) C dX9_melt_34 (by decide) ?_
      refine zz_callSi (As := [.int x1, .int (1 : Int32)]) (rest := [.ref (E.1 + 130)]) C (m_X9_at l E x1 (1 : Int32)  M_10) (va_cwS 2 C.1.2.2.2.2 gX9_melt_X9_at rfl rfl rfl hdS_X9_at ⟨Nat.le_of_ble_eq_true rfl, Nat.le_of_ble_eq_true rfl⟩) rfl hl.1 rfl (Nat.le_of_ble_eq_true rfl) dX9_melt_35 (fun r_11 M_12 => ?_)
      refine zz_iconst (v := 0) C dX9_melt_38 (by decide) ?_
      refine zz_iast C (zz_lt (zz_s9_0 h0) (by decide)) (fun _ => zz_c13 (zz_s9_0 h0)) dX9_melt_39 (fun M_13 => ?_)
      refine zz_aload_n C dX9_melt_40 rfl (lv_at hl 1 rfl) ?_
      refine zz_iload_n C dX9_melt_41 rfl (lv_at hl 3 rfl) ?_
      refine zz_iload_n C dX9_melt_42 rfl (lv_at hl 0 rfl) ?_
      refine zz_callVv (As := [.int x2, .int r_9]) (rest := []) C (m_X9_holdsMore l E a0 x2 r_9 h0 M_13) (cwV 2 C.1.2.2.2.2 gX9_melt_X9_holdsMore rfl rfl rfl hdV_X9_holdsMore ⟨Nat.le_of_ble_eq_true rfl, Nat.le_of_ble_eq_true rfl⟩) (zz_lt h0 (by decide)) (zz_c9 h0) rfl rfl hl.1 rfl (Nat.le_of_ble_eq_true rfl) dX9_melt_43 (fun _ M_14 => ?_)
      refine zz_iload_n C dX9_melt_46 rfl (lv_at hl 0 rfl) ?_
      exact zz_iret C hr dX9_melt_47
-- X9_burn ('X9', 'burn', '(II)I')
def b_X9_burn_96 (k31 : Nat → Int32 → Int32 → Int32 → zz_M → Option (Int32 × zz_M)) (a0 : Nat) (x1 : Int32) (x3 : Int32) (x4 : Int32) (M : zz_M) : Option (Int32 × zz_M) := k31 a0 x1 x3 x4 M
set_option maxRecDepth 100000 in
set_option maxHeartbeats 4000000 in
theorem wb_X9_burn_96 {p : Program} {l : Launch} {e : Env} {s : State} {m : MethodId} {args : Array Value} {below : List Frame} {meth : Method} {c : Code} {E : zz_E} (C : zz_C E RX9 cX9_burn 6 wsX9_burn p s m args meth c) (hr : meth.sig.returnType = (some .int)) {k31 : Nat → Int32 → Int32 → Int32 → zz_M → Option (Int32 × zz_M)} (hk31 : ∀ (a0 : Nat) (x1 : Int32) (x3 : Int32) (x4 : Int32) (ha0 : zz_sh a0 = 9) (M : zz_M) (ls : Array Slot), lv_has ls 6 [(0, .ref (E.1 + a0)), (1, .int x1), (3, .int x3), (4, .int x4)] → zz_Z E p l e (zz_rm 4) s m args below meth c (zz_Q (zz_pi E) E below args s) (k31 a0 x1 x3 x4 M) M (F0 m 31 ls [])) : ∀ (a0 : Nat) (x1 : Int32) (x3 : Int32) (x4 : Int32) (ha0 : zz_sh a0 = 9) (M : zz_M) (ls : Array Slot), lv_has ls 6 [(0, .ref (E.1 + a0)), (1, .int x1), (3, .int x3), (4, .int x4)] → zz_Z E p l e (zz_rm 4) s m args below meth c (zz_Q (zz_pi E) E below args s) (b_X9_burn_96 k31 a0 x1 x3 x4 M) M (F0 m 96 ls []) := by
  intro a0 x1 x3 x4 ha0 M ls hl
  unfold b_X9_burn_96
  refine zz_goto (tgt := 31) C dX9_burn_96 (by decide) ?_
  exact hk31 a0 x1 x3 x4 ha0 M ls (lv_sub hl [0, 1, 2, 3] rfl)
def b_X9_burn_77 (k31 : Nat → Int32 → Int32 → Int32 → zz_M → Option (Int32 × zz_M)) (a0 : Nat) (x1 : Int32) (x3 : Int32) (x5 : Int32) (st0 : Int32) (M : zz_M) : Option (Int32 × zz_M) := (if st0 = 0 then b_X9_burn_96 k31 a0 x1 x3 st0 M else zz_bd (f_X9_comesOff a0 x1 (1 : Int32) M) (fun r_24 M_25 => zz_w (x3 - (x5 * r_24)) (fun x3_26 => b_X9_burn_96 k31 a0 x1 x3_26 st0 M_25)))
set_option maxRecDepth 100000 in
set_option maxHeartbeats 4000000 in
theorem wb_X9_burn_77 {p : Program} {l : Launch} {e : Env} {s : State} {m : MethodId} {args : Array Value} {below : List Frame} {meth : Method} {c : Code} {E : zz_E} (C : zz_C E RX9 cX9_burn 6 wsX9_burn p s m args meth c) (hr : meth.sig.returnType = (some .int)) {k31 : Nat → Int32 → Int32 → Int32 → zz_M → Option (Int32 × zz_M)} (hk31 : ∀ (a0 : Nat) (x1 : Int32) (x3 : Int32) (x4 : Int32) (ha0 : zz_sh a0 = 9) (M : zz_M) (ls : Array Slot), lv_has ls 6 [(0, .ref (E.1 + a0)), (1, .int x1), (3, .int x3), (4, .int x4)] → zz_Z E p l e (zz_rm 4) s m args below meth c (zz_Q (zz_pi E) E below args s) (k31 a0 x1 x3 x4 M) M (F0 m 31 ls [])) : ∀ (a0 : Nat) (x1 : Int32) (x3 : Int32) (x5 : Int32) (st0 : Int32) (ha0 : zz_sh a0 = 9) (M : zz_M) (ls : Array Slot), lv_has ls 6 [(0, .ref (E.1 + a0)), (1, .int x1), (3, .int x3), (5, .int x5)] → zz_Z E p l e (zz_rm 4) s m args below meth c (zz_Q (zz_pi E) E below args s) (b_X9_burn_77 k31 a0 x1 x3 x5 st0 M) M (F0 m 77 ls [.int st0]) := by
  intro a0 x1 x3 x5 st0 ha0 M ls hl
  unfold b_X9_burn_77
  refine zz_istored (lv' := [(4, .int st0), (0, .ref (E.1 + a0)), (1, .int x1), (3, .int x3), (5, .int x5)]) C dX9_burn_77 hl (by decide) rfl (fun ls hl => ?_)
  refine zz_iload C dX9_burn_79 (lv_at hl 0 rfl) ?_
  refine zz_if_eq (tgt := 96) C dX9_burn_81 (by decide) (fun c_23 => ?_) (fun c_23 => ?_)
  · exact wb_X9_burn_96 C hr hk31 a0 x1 x3 st0 ha0 M ls (lv_sub hl [1, 2, 3, 0] rfl)
  · refine zz_iload_n C dX9_burn_84 rfl (lv_at hl 3 rfl) ?_
    refine zz_iload C dX9_burn_85 (lv_at hl 4 rfl) ?_
    refine zz_aload_n C dX9_burn_87 rfl (lv_at hl 1 rfl) ?_
    refine zz_iload_n C dX9_burn_88 rfl (lv_at hl 2 rfl) ?_
    refine zz_iconst (v := 1) C dX9_burn_89 (by decide) ?_
    refine zz_callVi (As := [.int x1, .int (1 : Int32)]) (rest := [.int x5, .int x3]) C (m_X9_comesOff l E a0 x1 (1 : Int32) ha0 M) (cwV 2 C.1.2.2.2.2 gX9_burn_X9_comesOff rfl rfl rfl hdV_X9_comesOff ⟨Nat.le_of_ble_eq_true rfl, Nat.le_of_ble_eq_true rfl⟩) (zz_lt ha0 (by decide)) (zz_c9 ha0) rfl rfl hl.1 rfl (Nat.le_of_ble_eq_true rfl) dX9_burn_90 (fun r_24 M_25 => ?_)
    refine zz_imul C dX9_burn_93 ?_
    refine zz_isub C dX9_burn_94 ?_
    refine zz_istore_n C (fun x3_26 => [(3, .int x3_26), (4, .int st0), (0, .ref (E.1 + a0)), (1, .int x1), (5, .int x5)]) dX9_burn_95 rfl hl (by decide) (fun _ => rfl) (fun x3_26 ls hl => ?_)
    exact wb_X9_burn_96 C hr hk31 a0 x1 x3_26 st0 ha0 M_25 ls (lv_sub hl [2, 3, 0, 1] rfl)
def b_X9_burn_64 (k31 : Nat → Int32 → Int32 → Int32 → zz_M → Option (Int32 × zz_M)) (a0 : Nat) (x1 : Int32) (x3 : Int32) (st0 : Int32) (M : zz_M) : Option (Int32 × zz_M) := (if x3 < st0 then b_X9_burn_77 k31 a0 x1 x3 st0 (0 : Int32) M else b_X9_burn_77 k31 a0 x1 x3 st0 (1 : Int32) M)
set_option maxRecDepth 100000 in
set_option maxHeartbeats 4000000 in
theorem wb_X9_burn_64 {p : Program} {l : Launch} {e : Env} {s : State} {m : MethodId} {args : Array Value} {below : List Frame} {meth : Method} {c : Code} {E : zz_E} (C : zz_C E RX9 cX9_burn 6 wsX9_burn p s m args meth c) (hr : meth.sig.returnType = (some .int)) {k31 : Nat → Int32 → Int32 → Int32 → zz_M → Option (Int32 × zz_M)} (hk31 : ∀ (a0 : Nat) (x1 : Int32) (x3 : Int32) (x4 : Int32) (ha0 : zz_sh a0 = 9) (M : zz_M) (ls : Array Slot), lv_has ls 6 [(0, .ref (E.1 + a0)), (1, .int x1), (3, .int x3), (4, .int x4)] → zz_Z E p l e (zz_rm 4) s m args below meth c (zz_Q (zz_pi E) E below args s) (k31 a0 x1 x3 x4 M) M (F0 m 31 ls [])) : ∀ (a0 : Nat) (x1 : Int32) (x3 : Int32) (st0 : Int32) (ha0 : zz_sh a0 = 9) (M : zz_M) (ls : Array Slot), lv_has ls 6 [(0, .ref (E.1 + a0)), (1, .int x1), (3, .int x3)] → zz_Z E p l e (zz_rm 4) s m args below meth c (zz_Q (zz_pi E) E below args s) (b_X9_burn_64 k31 a0 x1 x3 st0 M) M (F0 m 64 ls [.int st0]) := by
  intro a0 x1 x3 st0 ha0 M ls hl
  unfold b_X9_burn_64
  refine zz_istored (lv' := [(5, .int st0), (0, .ref (E.1 + a0)), (1, .int x1), (3, .int x3)]) C dX9_burn_64 hl (by decide) rfl (fun ls hl => ?_)
  refine zz_iload_n C dX9_burn_66 rfl (lv_at hl 3 rfl) ?_
  refine zz_iload C dX9_burn_67 (lv_at hl 0 rfl) ?_
  refine zz_icmp_lt (tgt := 76) C dX9_burn_69 (by decide) (fun c_22 => ?_) (fun c_22 => ?_)
  · refine zz_iconst (v := 0) C dX9_burn_76 (by decide) ?_
    exact wb_X9_burn_77 C hr hk31 a0 x1 x3 st0 (0 : Int32) ha0 M ls (lv_sub hl [1, 2, 3, 0] rfl)
  · refine zz_iconst (v := 1) C dX9_burn_72 (by decide) ?_
    refine zz_goto (tgt := 77) C dX9_burn_73 (by decide) ?_
    exact wb_X9_burn_77 C hr hk31 a0 x1 x3 st0 (1 : Int32) ha0 M ls (lv_sub hl [1, 2, 3, 0] rfl)
def b_X9_burn_99 (a0 : Nat) (x1 : Int32) (M : zz_M) : Option (Int32 × zz_M) := zz_bd (f_X9_grams a0 x1 (0 : Int32) M) (fun r_20 M_21 => some (r_20, M_21))
set_option maxRecDepth 100000 in
set_option maxHeartbeats 4000000 in
theorem wb_X9_burn_99 {p : Program} {l : Launch} {e : Env} {s : State} {m : MethodId} {args : Array Value} {below : List Frame} {meth : Method} {c : Code} {E : zz_E} (C : zz_C E RX9 cX9_burn 6 wsX9_burn p s m args meth c) (hr : meth.sig.returnType = (some .int)) : ∀ (a0 : Nat) (x1 : Int32) (ha0 : zz_sh a0 = 9) (M : zz_M) (ls : Array Slot), lv_has ls 6 [(0, .ref (E.1 + a0)), (1, .int x1)] → zz_Z E p l e (zz_rm 4) s m args below meth c (zz_Q (zz_pi E) E below args s) (b_X9_burn_99 a0 x1 M) M (F0 m 99 ls []) := by
  intro a0 x1 ha0 M ls hl
  unfold b_X9_burn_99
  refine zz_aload_n C dX9_burn_99 rfl (lv_at hl 0 rfl) ?_
  refine zz_iload_n C dX9_burn_100 rfl (lv_at hl 1 rfl) ?_
  refine zz_iconst (v := 0) C dX9_burn_101 (by decide) ?_
  refine zz_callVi (As := [.int x1, .int (0 : Int32)]) (rest := []) C (m_X9_grams l E a0 x1 (0 : Int32) ha0 M) (cwV 2 C.1.2.2.2.2 gX9_burn_X9_grams rfl rfl rfl hdV_X9_grams ⟨Nat.le_of_ble_eq_true rfl, Nat.le_of_ble_eq_true rfl⟩) (zz_lt ha0 (by decide)) (zz_c9 ha0) rfl rfl hl.1 rfl (Nat.le_of_ble_eq_true rfl) dX9_burn_102 (fun r_20 M_21 => ?_)
  exact zz_iret C hr dX9_burn_105
def b_X9_burn_31 : Nat → Nat → Int32 → Int32 → Int32 → zz_M → Option (Int32 × zz_M)
  | 0 => fun _ _ _ _ _ => none
  | n + 1 => fun a0 x1 x3 x4 M => (if x4 = 0 then b_X9_burn_99  a0 x1 M else zz_bd (f_X9_many a0 x1 M) (fun r_12 M_13 => (if r_12 ≤ 0 then b_X9_burn_99  a0 x1 M_13 else zz_bd (f_X9_many a0 x1 M_13) (fun r_15 M_16 => zz_bd (f_X9_layerOf a0 x1 (r_15 - (1 : Int32)) M_16) (fun r_17 M_18 => (if 0 ≤ r_17 then b_X9_burn_64 (b_X9_burn_31 n) a0 x1 x3 (3 : Int32) M_18 else b_X9_burn_64 (b_X9_burn_31 n) a0 x1 x3 (5 : Int32) M_18))))))
set_option maxRecDepth 100000 in
set_option maxHeartbeats 4000000 in
theorem wb_X9_burn_31 {p : Program} {l : Launch} {e : Env} {s : State} {m : MethodId} {args : Array Value} {below : List Frame} {meth : Method} {c : Code} {E : zz_E} (C : zz_C E RX9 cX9_burn 6 wsX9_burn p s m args meth c) (hr : meth.sig.returnType = (some .int)) : ∀ (n : Nat) (a0 : Nat) (x1 : Int32) (x3 : Int32) (x4 : Int32) (ha0 : zz_sh a0 = 9) (M : zz_M) (ls : Array Slot), lv_has ls 6 [(0, .ref (E.1 + a0)), (1, .int x1), (3, .int x3), (4, .int x4)] → zz_Z E p l e (zz_rm 4) s m args below meth c (zz_Q (zz_pi E) E below args s) (b_X9_burn_31 n a0 x1 x3 x4 M) M (F0 m 31 ls []) := by
  intro n
  induction n with
  | zero => intro a0 x1 x3 x4 ha0 M ls hl; exact zz_none
  | succ n ih =>
    intro a0 x1 x3 x4 ha0 M ls hl
    rw [b_X9_burn_31]
    refine zz_iload C dX9_burn_31 (lv_at hl 3 rfl) ?_
    refine zz_if_eq (tgt := 99) C dX9_burn_33 (by decide) (fun c_11 => ?_) (fun c_11 => ?_)
    · exact wb_X9_burn_99 C hr  a0 x1 ha0 M ls (lv_sub hl [0, 1] rfl)
    · refine zz_aload_n C dX9_burn_36 rfl (lv_at hl 0 rfl) ?_
      refine zz_iload_n C dX9_burn_37 rfl (lv_at hl 1 rfl) ?_
      refine zz_callVi (As := [.int x1]) (rest := []) C (m_X9_many l E a0 x1 ha0 M) (cwV 1 C.1.2.2.2.2 gX9_burn_X9_many rfl rfl rfl hdV_X9_many ⟨Nat.le_of_ble_eq_true rfl, Nat.le_of_ble_eq_true rfl⟩) (zz_lt ha0 (by decide)) (zz_c9 ha0) rfl rfl hl.1 rfl (Nat.le_of_ble_eq_true rfl) dX9_burn_38 (fun r_12 M_13 => ?_)
      refine zz_if_le (tgt := 99) C dX9_burn_41 (by decide) (fun c_14 => ?_) (fun c_14 => ?_)
      · exact wb_X9_burn_99 C hr  a0 x1 ha0 M_13 ls (lv_sub hl [0, 1] rfl)
      · refine zz_aload_n C dX9_burn_44 rfl (lv_at hl 0 rfl) ?_
        refine zz_iload_n C dX9_burn_45 rfl (lv_at hl 1 rfl) ?_
        refine zz_aload_n C dX9_burn_46 rfl (lv_at hl 0 rfl) ?_
        refine zz_iload_n C dX9_burn_47 rfl (lv_at hl 1 rfl) ?_
        refine zz_callVi (As := [.int x1]) (rest := [.int x1, .ref (E.1 + a0)]) C (m_X9_many l E a0 x1 ha0 M_13) (cwV 1 C.1.2.2.2.2 gX9_burn_X9_many rfl rfl rfl hdV_X9_many ⟨Nat.le_of_ble_eq_true rfl, Nat.le_of_ble_eq_true rfl⟩) (zz_lt ha0 (by decide)) (zz_c9 ha0) rfl rfl hl.1 rfl (Nat.le_of_ble_eq_true rfl) dX9_burn_48 (fun r_15 M_16 => ?_)
        refine zz_iconst (v := 1) C dX9_burn_51 (by decide) ?_
        refine zz_isub C dX9_burn_52 ?_
        refine zz_callVi (As := [.int x1, .int (r_15 - (1 : Int32))]) (rest := []) C (m_X9_layerOf l E a0 x1 (r_15 - (1 : Int32)) ha0 M_16) (cwV 2 C.1.2.2.2.2 gX9_burn_X9_layerOf rfl rfl rfl hdV_X9_layerOf ⟨Nat.le_of_ble_eq_true rfl, Nat.le_of_ble_eq_true rfl⟩) (zz_lt ha0 (by decide)) (zz_c9 ha0) rfl rfl hl.1 rfl (Nat.le_of_ble_eq_true rfl) dX9_burn_53 (fun r_17 M_18 => ?_)
        refine zz_if_ge (tgt := 63) C dX9_burn_56 (by decide) (fun c_19 => ?_) (fun c_19 => ?_)
        · refine zz_iconst (v := 3) C dX9_burn_63 (by decide) ?_
          exact wb_X9_burn_64 C hr ih a0 x1 x3 (3 : Int32) ha0 M_18 ls (lv_sub hl [0, 1, 2] rfl)
        · refine zz_iconst (v := 5) C dX9_burn_59 (by decide) ?_
          refine zz_goto (tgt := 64) C dX9_burn_60 (by decide) ?_
          exact wb_X9_burn_64 C hr ih a0 x1 x3 (5 : Int32) ha0 M_18 ls (lv_sub hl [0, 1, 2] rfl)
def f_X9_burn (a0 : Nat) (x1 : Int32) (x2 : Int32) (M : zz_M) : Option (Int32 × zz_M) := zz_bd (f_X9_isCandle a0 x1 M) (fun r_1 M_2 => (if r_1 = 0 then zz_bd (f_X9_finds a0 (-1000000001 : Int32) M_2) (fun r_4 M_5 => some (r_4, M_5)) else zz_bd (f_X9_in x2 (1 : Int32) (9999 : Int32) M_2) (fun r_6 M_7 => (if r_6 = 0 then zz_bd (f_X9_finds a0 (-1000000001 : Int32) M_7) (fun r_9 M_10 => some (r_9, M_10)) else b_X9_burn_31  zz_fuel a0 x1 x2 (1 : Int32) M_7))))
set_option maxRecDepth 100000 in
set_option maxHeartbeats 4000000 in
theorem m_X9_burn (l : Launch) (E : zz_E) (a0 : Nat) (x1 : Int32) (x2 : Int32) (h0 : zz_sh a0 = 9) (M : zz_M) : zz_Met (zz_pi E) l yX9_burn wsX9_burn 4 E [.ref (E.1 + a0), .int x1, .int x2] M (f_X9_burn a0 x1 x2 M) := by
  refine zz_met (cc := cX9_burn) (nL := 6) (ret := (some .int)) (by decide) rfl (Nat.le_of_ble_eq_true rfl) ?_
  intro p e s m below meth c C hr ls hl
  have C : zz_C E RX9 cX9_burn 6 wsX9_burn p s m [.ref (E.1 + a0), .int x1, .int x2].toArray meth c := C
  have hl : lv_has ls 6 [(0, .ref (E.1 + a0)), (1, .int x1), (2, .int x2)] := hl
  unfold f_X9_burn
  refine zz_aload_n C dX9_burn_0 rfl (lv_at hl 0 rfl) ?_
  refine zz_iload_n C dX9_burn_1 rfl (lv_at hl 1 rfl) ?_
  refine zz_callVi (As := [.int x1]) (rest := []) C (m_X9_isCandle l E a0 x1 h0 M) (cwV 1 C.1.2.2.2.2 gX9_burn_X9_isCandle rfl rfl rfl hdV_X9_isCandle ⟨Nat.le_of_ble_eq_true rfl, Nat.le_of_ble_eq_true rfl⟩) (zz_lt h0 (by decide)) (zz_c9 h0) rfl rfl hl.1 rfl (Nat.le_of_ble_eq_true rfl) dX9_burn_2 (fun r_1 M_2 => ?_)
  refine zz_if_eq (tgt := 19) C dX9_burn_5 (by decide) (fun c_3 => ?_) (fun c_3 => ?_)
  · refine zz_aload_n C dX9_burn_19 rfl (lv_at hl 0 rfl) ?_
    refine zz_ldc (v := -1000000001) C (List.mem_of_getElem? (i := 1) rfl) dX9_burn_20 ?_
    refine zz_callVi (As := [.int (-1000000001 : Int32)]) (rest := []) C (m_X9_finds l E a0 (-1000000001 : Int32) h0 M_2) (cwV 1 C.1.2.2.2.2 gX9_burn_X9_finds rfl rfl rfl hdV_X9_finds ⟨Nat.le_of_ble_eq_true rfl, Nat.le_of_ble_eq_true rfl⟩) (zz_lt h0 (by decide)) (zz_c9 h0) rfl rfl hl.1 rfl (Nat.le_of_ble_eq_true rfl) dX9_burn_22 (fun r_4 M_5 => ?_)
    exact zz_iret C hr dX9_burn_25
  · refine zz_iload_n C dX9_burn_8 rfl (lv_at hl 2 rfl) ?_
    refine zz_iconst (v := 1) C dX9_burn_9 (by decide) ?_
    refine zz_sipush (v := 9999) C dX9_burn_10 (by decide) ?_
    refine zz_callSi (As := [.int x2, .int (1 : Int32), .int (9999 : Int32)]) (rest := []) C (m_X9_in l E x2 (1 : Int32) (9999 : Int32)  M_2) (va_cwS 3 C.1.2.2.2.2 gX9_burn_X9_in rfl rfl rfl hdS_X9_in ⟨Nat.le_of_ble_eq_true rfl, Nat.le_of_ble_eq_true rfl⟩) rfl hl.1 rfl (Nat.le_of_ble_eq_true rfl) dX9_burn_13 (fun r_6 M_7 => ?_)
    refine zz_if_ne (tgt := 26) C dX9_burn_16 (by decide) (fun c_8 => ?_) (fun c_8 => ?_)
    · refine zz_aload_n C dX9_burn_19 rfl (lv_at hl 0 rfl) ?_
      refine zz_ldc (v := -1000000001) C (List.mem_of_getElem? (i := 1) rfl) dX9_burn_20 ?_
      refine zz_callVi (As := [.int (-1000000001 : Int32)]) (rest := []) C (m_X9_finds l E a0 (-1000000001 : Int32) h0 M_7) (cwV 1 C.1.2.2.2.2 gX9_burn_X9_finds rfl rfl rfl hdV_X9_finds ⟨Nat.le_of_ble_eq_true rfl, Nat.le_of_ble_eq_true rfl⟩) (zz_lt h0 (by decide)) (zz_c9 h0) rfl rfl hl.1 rfl (Nat.le_of_ble_eq_true rfl) dX9_burn_22 (fun r_9 M_10 => ?_)
      exact zz_iret C hr dX9_burn_25
    · refine zz_iload_n C dX9_burn_26 rfl (lv_at hl 2 rfl) ?_
      refine zz_istored_n (lv' := [(3, .int x2), (0, .ref (E.1 + a0)), (1, .int x1), (2, .int x2)]) C dX9_burn_27 rfl hl (by decide) rfl (fun ls hl => ?_)
      refine zz_iconst (v := 1) C dX9_burn_28 (by decide) ?_
      refine zz_istored (lv' := [(4, .int (1 : Int32)), (3, .int x2), (0, .ref (E.1 + a0)), (1, .int x1), (2, .int x2)]) C dX9_burn_29 hl (by decide) rfl (fun ls hl => ?_)
      exact wb_X9_burn_31 C hr  zz_fuel a0 x1 x2 (1 : Int32) h0 M_7 ls (lv_sub hl [2, 3, 1, 0] rfl)
