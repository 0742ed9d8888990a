-- X8_wrongSheet ('X8', 'wrongSheet', '(I)I')
theorem in_X8_wrongSheet_X8 : ∀ w ∈ u_ws RX8 TX8 11, w ∈ wsX8_wrongSheet := fun _ h => List.mem_cons_of_mem _ (List.mem_append_left _ (List.mem_append_right _ h))
theorem hdS_X8_isSheet : yX8_isSheet.cls ≠ "java/lang/invoke/MethodHandle" ∧ yX8_isSheet.cls ≠ "java/lang/invoke/VarHandle" ∧ (parseMethodDescriptor yX8_isSheet.desc).map (fun d => d.parameters.length) = some 1 := by decide +kernel
theorem hdV_X3_isMissing : yX3_isMissing.cls = RX3 ∧ yX3_isMissing.cls ≠ "java/lang/invoke/MethodHandle" ∧ yX3_isMissing.cls ≠ "java/lang/invoke/VarHandle" ∧ (parseMethodDescriptor yX3_isMissing.desc).map (fun d => d.parameters.length) = some 0 := by decide +kernel
def f_X8_wrongSheet (a0 : Nat) (x1 : Int32) (M : zz_M) : Option (Int32 × zz_M) := zz_bd (f_X8_isSheet x1 M) (fun r_1 M_2 => (if r_1 = 0 then some ((-1000000001 : Int32), M_2) else (if zz_in x1 4 = true then zz_bd (f_X3_isMissing (119 + 1 + 2 * zz_n x1) M_2) (fun r_5 M_6 => (if r_5 = 0 then some ((0 : Int32), M_6) else some ((-1000000006 : Int32), M_6))) else none)))
set_option maxRecDepth 100000 in
set_option maxHeartbeats 4000000 in
theorem m_X8_wrongSheet (l : Launch) (E : zz_E) (a0 : Nat) (x1 : Int32) (h0 : zz_sh a0 = 8) (M : zz_M) : zz_Met (zz_pi E) l yX8_wrongSheet wsX8_wrongSheet 3 E [.ref (E.1 + a0), .int x1] M (f_X8_wrongSheet a0 x1 M) := by
  refine zz_met (cc := cX8_wrongSheet) (nL := 2) (ret := (some .int)) (by decide) rfl (Nat.le_of_ble_eq_true rfl) ?_
  intro p e s m below meth c C hr ls hl
  have C : zz_C E RX8 cX8_wrongSheet 2 wsX8_wrongSheet p s m [.ref (E.1 + a0), .int x1].toArray meth c := C
  have hl : lv_has ls 2 [(0, .ref (E.1 + a0)), (1, .int x1)] := hl
  unfold f_X8_wrongSheet
  refine zz_iload_n C dX8_wrongSheet_0 rfl (lv_at hl 1 rfl) ?_
  refine zz_callSi (As := [.int x1]) (rest := []) C (m_X8_isSheet l E x1  M) (va_cwS 1 C.1.2.2.2.2 gX8_wrongSheet_X8_isSheet rfl rfl rfl hdS_X8_isSheet ⟨Nat.le_of_ble_eq_true rfl, Nat.le_of_ble_eq_true rfl⟩) rfl hl.1 rfl (Nat.le_of_ble_eq_true rfl) dX8_wrongSheet_1 (fun r_1 M_2 => ?_)
  refine zz_if_ne (tgt := 10) C dX8_wrongSheet_4 (by decide) (fun c_3 => ?_) (fun c_3 => ?_)
  · refine zz_ldc (v := -1000000001) C (List.mem_of_getElem? (i := 1) rfl) dX8_wrongSheet_7 ?_
    exact zz_iret C hr dX8_wrongSheet_9
  · refine zz_aload_n C dX8_wrongSheet_10 rfl (lv_at hl 0 rfl) ?_
    refine zz_get C (zz_lt h0 (by decide)) (zz_c8 h0) rfl in_X8_wrongSheet_X8 9 (by decide) (List.mem_of_getElem? (i := 2) rfl) rfl dX8_wrongSheet_11 ?_
    refine zz_iload_n C dX8_wrongSheet_14 rfl (lv_at hl 1 rfl) ?_
    refine zz_aald (t := 3) (g := fun i => 119 + 1 + 2 * i) C (zz_lt (zz_s8_9 h0) (by decide)) (zz_c20 (zz_s8_9 h0)) rfl dX8_wrongSheet_15 (fun b_4 => ?_)
    refine zz_callVi (As := []) (rest := []) C (m_X3_isMissing l E (119 + 1 + 2 * zz_n x1) (zz_e20 (zz_s8_9 h0) b_4) M_2) (cwV 0 C.1.2.2.2.2 gX8_wrongSheet_X3_isMissing rfl rfl rfl hdV_X3_isMissing ⟨Nat.le_of_ble_eq_true rfl, Nat.le_of_ble_eq_true rfl⟩) (zz_lt (zz_e20 (zz_s8_9 h0) b_4) (by decide)) (zz_c3 (zz_e20 (zz_s8_9 h0) b_4)) rfl rfl hl.1 rfl (Nat.le_of_ble_eq_true rfl) dX8_wrongSheet_16 (fun r_5 M_6 => ?_)
    refine zz_if_eq (tgt := 27) C dX8_wrongSheet_19 (by decide) (fun c_7 => ?_) (fun c_7 => ?_)
    · refine zz_iconst (v := 0) C dX8_wrongSheet_27 (by decide) ?_
      exact zz_iret C hr dX8_wrongSheet_28
    · refine zz_ldc (v := -1000000006) C (List.mem_of_getElem? (i := 3) rfl) dX8_wrongSheet_22 ?_
      refine zz_goto (tgt := 28) C dX8_wrongSheet_24 (by decide) ?_
      exact zz_iret C hr dX8_wrongSheet_28
-- X8_sheet ('X8', 'sheet', '(III)I')
theorem in_X8_sheet_X3 : ∀ w ∈ u_ws RX3 TX3 3, w ∈ wsX8_sheet := fun _ h => List.mem_cons_of_mem _ (List.mem_append_right _ h)
theorem in_X8_sheet_X8 : ∀ w ∈ u_ws RX8 TX8 11, w ∈ wsX8_sheet := fun _ h => List.mem_cons_of_mem _ (List.mem_append_left _ (List.mem_append_right _ h))
theorem hdV_X3_lay : yX3_lay.cls = RX3 ∧ yX3_lay.cls ≠ "java/lang/invoke/MethodHandle" ∧ yX3_lay.cls ≠ "java/lang/invoke/VarHandle" ∧ (parseMethodDescriptor yX3_lay.desc).map (fun d => d.parameters.length) = some 2 := by decide +kernel
def b_X8_sheet_36 (a0 : Nat) (x1 : Int32) (x2 : Int32) (x3 : Int32) (M : zz_M) : Option (Int32 × zz_M) := (if 0 ≤ x3 then (if x3 ≤ (40 : Int32) then (if zz_in x1 4 = true then zz_bd (f_X3_lay (119 + 1 + 2 * zz_n x1) x2 x3 M) (fun _ M_15 => (if zz_in x1 4 = true then some ((zz_i M_15 (119 + 1 + 2 * zz_n x1) 1), M_15) else none)) else none) else zz_bd (f_X8_finding a0 (-1000000001 : Int32) M) (fun r_17 M_18 => some (r_17, M_18))) else zz_bd (f_X8_finding a0 (-1000000007 : Int32) M) (fun r_19 M_20 => some (r_19, M_20)))
set_option maxRecDepth 100000 in
set_option maxHeartbeats 4000000 in
theorem wb_X8_sheet_36 {p : Program} {l : Launch} {e : Env} {s : State} {m : MethodId} {args : Array Value} {below : List Frame} {meth : Method} {c : Code} {E : zz_E} (C : zz_C E RX8 cX8_sheet 4 wsX8_sheet p s m args meth c) (hr : meth.sig.returnType = (some .int)) : ∀ (a0 : Nat) (x1 : Int32) (x2 : Int32) (x3 : Int32) (ha0 : zz_sh a0 = 8) (M : zz_M) (ls : Array Slot), lv_has ls 4 [(0, .ref (E.1 + a0)), (1, .int x1), (2, .int x2), (3, .int x3)] → zz_Z E p l e (zz_rm 3) s m args below meth c (zz_Q (zz_pi E) E below args s) (b_X8_sheet_36 a0 x1 x2 x3 M) M (F0 m 36 ls []) := by
  intro a0 x1 x2 x3 ha0 M ls hl
  unfold b_X8_sheet_36
  refine zz_iload_n C dX8_sheet_36 rfl (lv_at hl 3 rfl) ?_
  refine zz_if_ge (tgt := 47) C dX8_sheet_37 (by decide) (fun c_12 => ?_) (fun c_12 => ?_)
  · refine zz_iload_n C dX8_sheet_47 rfl (lv_at hl 3 rfl) ?_
    refine zz_bipush (v := 40) C dX8_sheet_48 (by decide) ?_
    refine zz_icmp_le (tgt := 60) C dX8_sheet_50 (by decide) (fun c_13 => ?_) (fun c_13 => ?_)
    · refine zz_aload_n C dX8_sheet_60 rfl (lv_at hl 0 rfl) ?_
      refine zz_get C (zz_lt ha0 (by decide)) (zz_c8 ha0) rfl in_X8_sheet_X8 9 (by decide) (List.mem_of_getElem? (i := 3) rfl) rfl dX8_sheet_61 ?_
      refine zz_iload_n C dX8_sheet_64 rfl (lv_at hl 1 rfl) ?_
      refine zz_aald (t := 3) (g := fun i => 119 + 1 + 2 * i) C (zz_lt (zz_s8_9 ha0) (by decide)) (zz_c20 (zz_s8_9 ha0)) rfl dX8_sheet_65 (fun b_14 => ?_)
      refine zz_iload_n C dX8_sheet_66 rfl (lv_at hl 2 rfl) ?_
      refine zz_iload_n C dX8_sheet_67 rfl (lv_at hl 3 rfl) ?_
      refine zz_callVv (As := [.int x2, .int x3]) (rest := []) C (m_X3_lay l E (119 + 1 + 2 * zz_n x1) x2 x3 (zz_e20 (zz_s8_9 ha0) b_14) M) (cwV 2 C.1.2.2.2.2 gX8_sheet_X3_lay rfl rfl rfl hdV_X3_lay ⟨Nat.le_of_ble_eq_true rfl, Nat.le_of_ble_eq_true rfl⟩) (zz_lt (zz_e20 (zz_s8_9 ha0) b_14) (by decide)) (zz_c3 (zz_e20 (zz_s8_9 ha0) b_14)) rfl rfl hl.1 rfl (Nat.le_of_ble_eq_true rfl) dX8_sheet_68 (fun _ M_15 => ?_)
      refine zz_aload_n C dX8_sheet_71 rfl (lv_at hl 0 rfl) ?_
      refine zz_get C (zz_lt ha0 (by decide)) (zz_c8 ha0) rfl in_X8_sheet_X8 9 (by decide) (List.mem_of_getElem? (i := 3) rfl) rfl dX8_sheet_72 ?_
      refine zz_iload_n C dX8_sheet_75 rfl (lv_at hl 1 rfl) ?_
      refine zz_aald (t := 3) (g := fun i => 119 + 1 + 2 * i) C (zz_lt (zz_s8_9 ha0) (by decide)) (zz_c20 (zz_s8_9 ha0)) rfl dX8_sheet_76 (fun b_16 => ?_)
      refine zz_get C (zz_lt (zz_e20 (zz_s8_9 ha0) b_16) (by decide)) (zz_c3 (zz_e20 (zz_s8_9 ha0) b_16)) rfl in_X8_sheet_X3 1 (by decide) (List.mem_of_getElem? (i := 4) rfl) rfl dX8_sheet_77 ?_
      exact zz_iret C hr dX8_sheet_80
    · refine zz_aload_n C dX8_sheet_53 rfl (lv_at hl 0 rfl) ?_
      refine zz_ldc (v := -1000000001) C (List.mem_of_getElem? (i := 1) rfl) dX8_sheet_54 ?_
      refine zz_callVi (As := [.int (-1000000001 : Int32)]) (rest := []) C (m_X8_finding l E a0 (-1000000001 : Int32) ha0 M) (cwV 1 C.1.2.2.2.2 gX8_sheet_X8_finding rfl rfl rfl hdV_X8_finding ⟨Nat.le_of_ble_eq_true rfl, Nat.le_of_ble_eq_true rfl⟩) (zz_lt ha0 (by decide)) (zz_c8 ha0) rfl rfl hl.1 rfl (Nat.le_of_ble_eq_true rfl) dX8_sheet_56 (fun r_17 M_18 => ?_)
      exact zz_iret C hr dX8_sheet_59
  · refine zz_aload_n C dX8_sheet_40 rfl (lv_at hl 0 rfl) ?_
    refine zz_ldc (v := -1000000007) C (List.mem_of_getElem? (i := 2) rfl) dX8_sheet_41 ?_
    refine zz_callVi (As := [.int (-1000000007 : Int32)]) (rest := []) C (m_X8_finding l E a0 (-1000000007 : Int32) ha0 M) (cwV 1 C.1.2.2.2.2 gX8_sheet_X8_finding rfl rfl rfl hdV_X8_finding ⟨Nat.le_of_ble_eq_true rfl, Nat.le_of_ble_eq_true rfl⟩) (zz_lt ha0 (by decide)) (zz_c8 ha0) rfl rfl hl.1 rfl (Nat.le_of_ble_eq_true rfl) dX8_sheet_43 (fun r_19 M_20 => ?_)
    exact zz_iret C hr dX8_sheet_46
def f_X8_sheet (a0 : Nat) (x1 : Int32) (x2 : Int32) (x3 : Int32) (M : zz_M) : Option (Int32 × zz_M) := zz_bd (f_X8_isSheet x1 M) (fun r_1 M_2 => (if r_1 = 0 then zz_bd (f_X8_finding a0 (-1000000001 : Int32) M_2) (fun r_4 M_5 => some (r_4, M_5)) else (if x2 = 0 then b_X8_sheet_36  a0 x1 x2 x3 M_2 else (if x2 = (8 : Int32) then b_X8_sheet_36  a0 x1 x2 x3 M_2 else (if x2 = (16 : Int32) then b_X8_sheet_36  a0 x1 x2 x3 M_2 else (if x2 = (64 : Int32) then b_X8_sheet_36  a0 x1 x2 x3 M_2 else zz_bd (f_X8_finding a0 (-1000000001 : Int32) M_2) (fun r_10 M_11 => some (r_10, M_11))))))))
set_option maxRecDepth 100000 in
set_option maxHeartbeats 4000000 in
theorem m_X8_sheet (l : Launch) (E : zz_E) (a0 : Nat) (x1 : Int32) (x2 : Int32) (x3 : Int32) (h0 : zz_sh a0 = 8) (M : zz_M) : zz_Met (zz_pi E) l yX8_sheet wsX8_sheet 3 E [.ref (E.1 + a0), .int x1, .int x2, .int x3] M (f_X8_sheet a0 x1 x2 x3 M) := by
  refine zz_met (cc := cX8_sheet) (nL := 4) (ret := (some .int)) (by decide) rfl (Nat.le_of_ble_eq_true rfl) ?_
  intro p e s m below meth c C hr ls hl
  have C : zz_C E RX8 cX8_sheet 4 wsX8_sheet p s m [.ref (E.1 + a0), .int x1, .int x2, .int x3].toArray meth c := C
  have hl : lv_has ls 4 [(0, .ref (E.1 + a0)), (1, .int x1), (2, .int x2), (3, .int x3)] := hl
  unfold f_X8_sheet
  refine zz_iload_n C dX8_sheet_0 rfl (lv_at hl 1 rfl) ?_
  refine zz_callSi (As := [.int x1]) (rest := []) C (m_X8_isSheet l E x1  M) (va_cwS 1 C.1.2.2.2.2 gX8_sheet_X8_isSheet rfl rfl rfl hdS_X8_isSheet ⟨Nat.le_of_ble_eq_true rfl, Nat.le_of_ble_eq_true rfl⟩) rfl hl.1 rfl (Nat.le_of_ble_eq_true rfl) dX8_sheet_1 (fun r_1 M_2 => ?_)
  refine zz_if_eq (tgt := 29) C dX8_sheet_4 (by decide) (fun c_3 => ?_) (fun c_3 => ?_)
  · refine zz_aload_n C dX8_sheet_29 rfl (lv_at hl 0 rfl) ?_
    refine zz_ldc (v := -1000000001) C (List.mem_of_getElem? (i := 1) rfl) dX8_sheet_30 ?_
    refine zz_callVi (As := [.int (-1000000001 : Int32)]) (rest := []) C (m_X8_finding l E a0 (-1000000001 : Int32) h0 M_2) (cwV 1 C.1.2.2.2.2 gX8_sheet_X8_finding rfl rfl rfl hdV_X8_finding ⟨Nat.le_of_ble_eq_true rfl, Nat.le_of_ble_eq_true rfl⟩) (zz_lt h0 (by decide)) (zz_c8 h0) rfl rfl hl.1 rfl (Nat.le_of_ble_eq_true rfl) dX8_sheet_32 (fun r_4 M_5 => ?_)
    exact zz_iret C hr dX8_sheet_35
  · refine zz_iload_n C dX8_sheet_7 rfl (lv_at hl 2 rfl) ?_
    refine zz_if_eq (tgt := 36) C dX8_sheet_8 (by decide) (fun c_6 => ?_) (fun c_6 => ?_)
    · exact wb_X8_sheet_36 C hr  a0 x1 x2 x3 h0 M_2 ls (lv_sub hl [0, 1, 2, 3] rfl)
    · refine zz_iload_n C dX8_sheet_11 rfl (lv_at hl 2 rfl) ?_
      refine zz_bipush (v := 8) C dX8_sheet_12 (by decide) ?_
      refine zz_icmp_eq (tgt := 36) C dX8_sheet_14 (by decide) (fun c_7 => ?_) (fun c_7 => ?_)
      · exact wb_X8_sheet_36 C hr  a0 x1 x2 x3 h0 M_2 ls (lv_sub hl [0, 1, 2, 3] rfl)
      · refine zz_iload_n C dX8_sheet_17 rfl (lv_at hl 2 rfl) ?_
        refine zz_bipush (v := 16) C dX8_sheet_18 (by decide) ?_
        refine zz_icmp_eq (tgt := 36) C dX8_sheet_20 (by decide) (fun c_8 => ?_) (fun c_8 => ?_)
        · exact wb_X8_sheet_36 C hr  a0 x1 x2 x3 h0 M_2 ls (lv_sub hl [0, 1, 2, 3] rfl)
        · refine zz_iload_n C dX8_sheet_23 rfl (lv_at hl 2 rfl) ?_
          refine zz_bipush (v := 64) C dX8_sheet_24 (by decide) ?_
          refine zz_icmp_eq (tgt := 36) C dX8_sheet_26 (by decide) (fun c_9 => ?_) (fun c_9 => ?_)
          · exact wb_X8_sheet_36 C hr  a0 x1 x2 x3 h0 M_2 ls (lv_sub hl [0, 1, 2, 3] rfl)
          · refine zz_aload_n C dX8_sheet_29 rfl (lv_at hl 0 rfl) ?_
            refine zz_ldc (v := -1000000001) C (List.mem_of_getElem? (i := 1) rfl) dX8_sheet_30 ?_
            refine zz_callVi (As := [.int (-1000000001 : Int32)]) (rest := []) C (m_X8_finding l E a0 (-1000000001 : Int32) h0 M_2) (cwV 1 C.1.2.2.2.2 gX8_sheet_X8_finding rfl rfl rfl hdV_X8_finding ⟨Nat.le_of_ble_eq_true rfl, Nat.le_of_ble_eq_true rfl⟩) (zz_lt h0 (by decide)) (zz_c8 h0) rfl rfl hl.1 rfl (Nat.le_of_ble_eq_true rfl) dX8_sheet_32 (fun r_10 M_11 => ?_)
            exact zz_iret C hr dX8_sheet_35
-- X8_write ('X8', 'write', '(IIJ)J')
theorem in_X8_write_X3 : ∀ w ∈ u_ws RX3 TX3 3, w ∈ wsX8_write := fun _ h => List.mem_cons_of_mem _ (List.mem_append_right _ h)
theorem in_X8_write_X8 : ∀ w ∈ u_ws RX8 TX8 11, w ∈ wsX8_write := fun _ h => List.mem_cons_of_mem _ (List.mem_append_left _ (List.mem_append_right _ h))
theorem hdV_X3_put : yX3_put.cls = RX3 ∧ yX3_put.cls ≠ "java/lang/invoke/MethodHandle" ∧ yX3_put.cls ≠ "java/lang/invoke/VarHandle" ∧ (parseMethodDescriptor yX3_put.desc).map (fun d => d.parameters.length) = some 2 := by decide +kernel
def f_X8_write (a0 : Nat) (x1 : Int32) (x2 : Int32) (y3 : Int64) (M : zz_M) : Option (Int64 × zz_M) := zz_bd (f_X8_isSheet x1 M) (fun r_1 M_2 => (if r_1 = 0 then zz_bd (f_X8_finding a0 (-1000000001 : Int32) M_2) (fun r_17 M_18 => some ((r_17.toInt64), M_18)) else (if zz_in x1 4 = true then zz_bd (f_X3_isMissing (119 + 1 + 2 * zz_n x1) M_2) (fun r_5 M_6 => (if r_5 = 0 then zz_bd (f_X8_within x2 (0 : Int32) ((zz_i M_6 (119 + 1 + 2 * zz_n x1) 1) - (1 : Int32)) M_6) (fun r_8 M_9 => (if r_8 = 0 then zz_bd (f_X8_finding a0 (-1000000001 : Int32) M_9) (fun r_13 M_14 => some ((r_13.toInt64), M_14)) else (if zz_in x2 40 = true then zz_w (zz_j M_9 ((119 + 1 + 2 * zz_n x1) + 1) (zz_n x2)) (fun y6_11 => zz_bd (f_X3_put (119 + 1 + 2 * zz_n x1) x2 y3 M_9) (fun _ M_12 => some (y6_11, M_12))) else none))) else zz_bd (f_X8_finding a0 (-1000000006 : Int32) M_6) (fun r_15 M_16 => some ((r_15.toInt64), M_16)))) else none)))
set_option maxRecDepth 100000 in
set_option maxHeartbeats 4000000 in
theorem m_X8_write (l : Launch) (E : zz_E) (a0 : Nat) (x1 : Int32) (x2 : Int32) (y3 : Int64) (h0 : zz_sh a0 = 8) (M : zz_M) : zz_Met (zz_pl E) l yX8_write wsX8_write 3 E [.ref (E.1 + a0), .int x1, .int x2, .long y3] M (f_X8_write a0 x1 x2 y3 M) := by
  refine zz_met (cc := cX8_write) (nL := 8) (ret := (some .long)) (by decide) rfl (Nat.le_of_ble_eq_true rfl) ?_
  intro p e s m below meth c C hr ls hl
  have C : zz_C E RX8 cX8_write 8 wsX8_write p s m [.ref (E.1 + a0), .int x1, .int x2, .long y3].toArray meth c := C
  have hl : lv_has ls 8 [(0, .ref (E.1 + a0)), (1, .int x1), (2, .int x2), (3, .long y3)] := hl
  unfold f_X8_write
  refine zz_iload_n C dX8_write_0 rfl (lv_at hl 1 rfl) ?_
  refine zz_callSi (As := [.int x1]) (rest := []) C (m_X8_isSheet l E x1  M) (va_cwS 1 C.1.2.2.2.2 gX8_write_X8_isSheet rfl rfl rfl hdS_X8_isSheet ⟨Nat.le_of_ble_eq_true rfl, Nat.le_of_ble_eq_true rfl⟩) rfl hl.1 rfl (Nat.le_of_ble_eq_true rfl) dX8_write_1 (fun r_1 M_2 => ?_)
  refine zz_if_ne (tgt := 15) C dX8_write_4 (by decide) (fun c_3 => ?_) (fun c_3 => ?_)
  · refine zz_aload_n C dX8_write_7 rfl (lv_at hl 0 rfl) ?_
    refine zz_ldc (v := -1000000001) C (List.mem_of_getElem? (i := 1) rfl) dX8_write_8 ?_
    refine zz_callVi (As := [.int (-1000000001 : Int32)]) (rest := []) C (m_X8_finding l E a0 (-1000000001 : Int32) h0 M_2) (cwV 1 C.1.2.2.2.2 gX8_write_X8_finding rfl rfl rfl hdV_X8_finding ⟨Nat.le_of_ble_eq_true rfl, Nat.le_of_ble_eq_true rfl⟩) (zz_lt h0 (by decide)) (zz_c8 h0) rfl rfl hl.1 rfl (Nat.le_of_ble_eq_true rfl) dX8_write_10 (fun r_17 M_18 => ?_)
    refine zz_i2l C dX8_write_13 ?_
    exact zz_lret C hr dX8_write_14
  · refine zz_aload_n C dX8_write_15 rfl (lv_at hl 0 rfl) ?_
    refine zz_get C (zz_lt h0 (by decide)) (zz_c8 h0) rfl in_X8_write_X8 9 (by decide) (List.mem_of_getElem? (i := 2) rfl) rfl dX8_write_16 ?_
    refine zz_iload_n C dX8_write_19 rfl (lv_at hl 1 rfl) ?_
    refine zz_aald (t := 3) (g := fun i => 119 + 1 + 2 * i) C (zz_lt (zz_s8_9 h0) (by decide)) (zz_c20 (zz_s8_9 h0)) rfl dX8_write_20 (fun b_4 => ?_)
    refine zz_astore (lv' := [(5, .ref (E.1 + (119 + 1 + 2 * zz_n x1))), (0, .ref (E.1 + a0)), (1, .int x1), (2, .int x2), (3, .long y3)]) C dX8_write_21 hl (by decide) rfl (fun ls hl => ?_)
    refine zz_aload C dX8_write_23 (lv_at hl 0 rfl) ?_
    refine zz_callVi (As := []) (rest := []) C (m_X3_isMissing l E (119 + 1 + 2 * zz_n x1) (zz_e20 (zz_s8_9 h0) b_4) M_2) (cwV 0 C.1.2.2.2.2 gX8_write_X3_isMissing rfl rfl rfl hdV_X3_isMissing ⟨Nat.le_of_ble_eq_true rfl, Nat.le_of_ble_eq_true rfl⟩) (zz_lt (zz_e20 (zz_s8_9 h0) b_4) (by decide)) (zz_c3 (zz_e20 (zz_s8_9 h0) b_4)) rfl rfl hl.1 rfl (Nat.le_of_ble_eq_true rfl) dX8_write_25 (fun r_5 M_6 => ?_)
    refine zz_if_eq (tgt := 39) C dX8_write_28 (by decide) (fun c_7 => ?_) (fun c_7 => ?_)
    · refine zz_iload_n C dX8_write_39 rfl (lv_at hl 3 rfl) ?_
      refine zz_iconst (v := 0) C dX8_write_40 (by decide) ?_
      refine zz_aload C dX8_write_41 (lv_at hl 0 rfl) ?_
      refine zz_get C (zz_lt (zz_e20 (zz_s8_9 h0) b_4) (by decide)) (zz_c3 (zz_e20 (zz_s8_9 h0) b_4)) rfl in_X8_write_X3 1 (by decide) (List.mem_of_getElem? (i := 4) rfl) rfl dX8_write_43 ?_
      refine zz_iconst (v := 1) C dX8_write_46 (by decide) ?_
      refine zz_isub C dX8_write_47 ?_
      refine zz_callSi (As := [.int x2, .int (0 : Int32), .int ((zz_i M_6 (119 + 1 + 2 * zz_n x1) 1) - (1 : Int32))]) (rest := []) C (m_X8_within l E x2 (0 : Int32) ((zz_i M_6 (119 + 1 + 2 * zz_n x1) 1) - (1 : Int32))  M_6) (va_cwS 3 C.1.2.2.2.2 gX8_write_X8_within rfl rfl rfl hdS_X8_within ⟨Nat.le_of_ble_eq_true rfl, Nat.le_of_ble_eq_true rfl⟩) rfl hl.1 rfl (Nat.le_of_ble_eq_true rfl) dX8_write_48 (fun r_8 M_9 => ?_)
      refine zz_if_ne (tgt := 62) C dX8_write_51 (by decide) (fun c_10 => ?_) (fun c_10 => ?_)
      · refine zz_aload_n C dX8_write_54 rfl (lv_at hl 1 rfl) ?_
        refine zz_ldc (v := -1000000001) C (List.mem_of_getElem? (i := 1) rfl) dX8_write_55 ?_
        refine zz_callVi (As := [.int (-1000000001 : Int32)]) (rest := []) C (m_X8_finding l E a0 (-1000000001 : Int32) h0 M_9) (cwV 1 C.1.2.2.2.2 gX8_write_X8_finding rfl rfl rfl hdV_X8_finding ⟨Nat.le_of_ble_eq_true rfl, Nat.le_of_ble_eq_true rfl⟩) (zz_lt h0 (by decide)) (zz_c8 h0) rfl rfl hl.1 rfl (Nat.le_of_ble_eq_true rfl) dX8_write_57 (fun r_13 M_14 => ?_)
        refine zz_i2l C dX8_write_60 ?_
        exact zz_lret C hr dX8_write_61
      · refine zz_aload C dX8_write_62 (lv_at hl 0 rfl) ?_
        refine zz_get C (zz_lt (zz_e20 (zz_s8_9 h0) b_4) (by decide)) (zz_c3 (zz_e20 (zz_s8_9 h0) b_4)) rfl in_X8_write_X3 2 (by decide) (List.mem_of_getElem? (i := 5) rfl) rfl dX8_write_64 ?_
        refine zz_iload_n C dX8_write_67 rfl (lv_at hl 3 rfl) ?_
        refine zz_lald C (zz_lt (zz_s3_2 (zz_e20 (zz_s8_9 h0) b_4)) (by decide)) (zz_c16 (zz_s3_2 (zz_e20 (zz_s8_9 h0) b_4))) dX8_write_68 ?_
        refine zz_lstore C (fun y6_11 => [(6, .long y6_11), (5, .ref (E.1 + (119 + 1 + 2 * zz_n x1))), (0, .ref (E.1 + a0)), (1, .int x1), (2, .int x2), (3, .long y3)]) dX8_write_69 hl (by decide) (fun _ => rfl) (fun y6_11 ls hl => ?_)
        refine zz_aload C dX8_write_71 (lv_at hl 1 rfl) ?_
        refine zz_iload_n C dX8_write_73 rfl (lv_at hl 4 rfl) ?_
        refine zz_lload_n C dX8_write_74 rfl (lv_at hl 5 rfl) ?_
        refine zz_callVv (As := [.int x2, .long y3]) (rest := []) C (m_X3_put l E (119 + 1 + 2 * zz_n x1) x2 y3 (zz_e20 (zz_s8_9 h0) b_4) M_9) (cwV 2 C.1.2.2.2.2 gX8_write_X3_put rfl rfl rfl hdV_X3_put ⟨Nat.le_of_ble_eq_true rfl, Nat.le_of_ble_eq_true rfl⟩) (zz_lt (zz_e20 (zz_s8_9 h0) b_4) (by decide)) (zz_c3 (zz_e20 (zz_s8_9 h0) b_4)) rfl rfl hl.1 rfl (Nat.le_of_ble_eq_true rfl) dX8_write_75 (fun _ M_12 => ?_)
        refine zz_lload C dX8_write_78 (lv_at hl 0 rfl) ?_
        exact zz_lret C hr dX8_write_80
    · refine zz_aload_n C dX8_write_31 rfl (lv_at hl 1 rfl) ?_
      refine zz_ldc (v := -1000000006) C (List.mem_of_getElem? (i := 3) rfl) dX8_write_32 ?_
      refine zz_callVi (As := [.int (-1000000006 : Int32)]) (rest := []) C (m_X8_finding l E a0 (-1000000006 : Int32) h0 M_6) (cwV 1 C.1.2.2.2.2 gX8_write_X8_finding rfl rfl rfl hdV_X8_finding ⟨Nat.le_of_ble_eq_true rfl, Nat.le_of_ble_eq_true rfl⟩) (zz_lt h0 (by decide)) (zz_c8 h0) rfl rfl hl.1 rfl (Nat.le_of_ble_eq_true rfl) dX8_write_34 (fun r_15 M_16 => ?_)
      refine zz_i2l C dX8_write_37 ?_
      exact zz_lret C hr dX8_write_38
-- X8_copy ('X8', 'copy', '(IIIII)I')
theorem in_X8_copy_X3 : ∀ w ∈ u_ws RX3 TX3 3, w ∈ wsX8_copy := fun _ h => List.mem_cons_of_mem _ (List.mem_append_right _ h)
theorem in_X8_copy_X8 : ∀ w ∈ u_ws RX8 TX8 11, w ∈ wsX8_copy := fun _ h => List.mem_cons_of_mem _ (List.mem_append_left _ (List.mem_append_right _ h))
theorem hdV_X3_hasRun : yX3_hasRun.cls = RX3 ∧ yX3_hasRun.cls ≠ "java/lang/invoke/MethodHandle" ∧ yX3_hasRun.cls ≠ "java/lang/invoke/VarHandle" ∧ (parseMethodDescriptor yX3_hasRun.desc).map (fun d => d.parameters.length) = some 2 := by decide +kernel
def f_X8_copy (a0 : Nat) (x1 : Int32) (x2 : Int32) (x3 : Int32) (x4 : Int32) (x5 : Int32) (M : zz_M) : Option (Int32 × zz_M) := zz_bd (f_X8_isSheet x1 M) (fun r_1 M_2 => (if r_1 = 0 then zz_bd (f_X8_finding a0 (-1000000001 : Int32) M_2) (fun r_4 M_5 => some (r_4, M_5)) else zz_bd (f_X8_isSheet x3 M_2) (fun r_6 M_7 => (if r_6 = 0 then zz_bd (f_X8_finding a0 (-1000000001 : Int32) M_7) (fun r_35 M_36 => some (r_35, M_36)) else (if zz_in x1 4 = true then (if zz_in x3 4 = true then zz_bd (f_X3_isMissing (119 + 1 + 2 * zz_n x1) M_7) (fun r_11 M_12 => (if r_11 = 0 then zz_bd (f_X3_isMissing (119 + 1 + 2 * zz_n x3) M_12) (fun r_16 M_17 => (if r_16 = 0 then (if (zz_i M_17 (119 + 1 + 2 * zz_n x1) 0) = (zz_i M_17 (119 + 1 + 2 * zz_n x3) 0) then zz_bd (f_X3_hasRun (119 + 1 + 2 * zz_n x1) x2 x5 M_17) (fun r_20 M_21 => (if r_20 = 0 then zz_bd (f_X8_finding a0 (-1000000001 : Int32) M_21) (fun r_23 M_24 => some (r_23, M_24)) else zz_bd (f_X3_hasRun (119 + 1 + 2 * zz_n x3) x4 x5 M_21) (fun r_25 M_26 => (if r_25 = 0 then zz_bd (f_X8_finding a0 (-1000000001 : Int32) M_26) (fun r_29 M_30 => some (r_29, M_30)) else (if zz_cpok x2 x4 x5 40 40 = true then zz_w (zz_cj M_26 ((119 + 1 + 2 * zz_n x1) + 1) (zz_n x2) ((119 + 1 + 2 * zz_n x3) + 1) (zz_n x4) (zz_n x5)) (fun M_28 => some (x5, M_28)) else none))))) else zz_bd (f_X8_finding a0 (-1000000003 : Int32) M_17) (fun r_31 M_32 => some (r_31, M_32))) else zz_bd (f_X8_finding a0 (-1000000006 : Int32) M_17) (fun r_33 M_34 => some (r_33, M_34)))) else zz_bd (f_X8_finding a0 (-1000000006 : Int32) M_12) (fun r_14 M_15 => some (r_14, M_15)))) else none) else none)))))
set_option maxRecDepth 100000 in
set_option maxHeartbeats 4000000 in
theorem m_X8_copy (l : Launch) (E : zz_E) (a0 : Nat) (x1 : Int32) (x2 : Int32) (x3 : Int32) (x4 : Int32) (x5 : Int32) (h0 : zz_sh a0 = 8) (M : zz_M) : zz_Met (zz_pi E) l yX8_copy wsX8_copy 3 E [.ref (E.1 + a0), .int x1, .int x2, .int x3, .int x4, .int x5] M (f_X8_copy a0 x1 x2 x3 x4 x5 M) := by
  refine zz_met (cc := cX8_copy) (nL := 8) (ret := (some .int)) (by decide) rfl (Nat.le_of_ble_eq_true rfl) ?_
  intro p e s m below meth c C hr ls hl
  have C : zz_C E RX8 cX8_copy 8 wsX8_copy p s m [.ref (E.1 + a0), .int x1, .int x2, .int x3, .int x4, .int x5].toArray meth c := C
  have hl : lv_has ls 8 [(0, .ref (E.1 + a0)), (1, .int x1), (2, .int x2), (3, .int x3), (4, .int x4), (5, .int x5)] := hl
  unfold f_X8_copy
  refine zz_iload_n C dX8_copy_0 rfl (lv_at hl 1 rfl) ?_
  refine zz_callSi (As := [.int x1]) (rest := []) C (m_X8_isSheet l E x1  M) (va_cwS 1 C.1.2.2.2.2 gX8_copy_X8_isSheet rfl rfl rfl hdS_X8_isSheet ⟨Nat.le_of_ble_eq_true rfl, Nat.le_of_ble_eq_true rfl⟩) rfl hl.1 rfl (Nat.le_of_ble_eq_true rfl) dX8_copy_1 (fun r_1 M_2 => ?_)
  refine zz_if_eq (tgt := 14) C dX8_copy_4 (by decide) (fun c_3 => ?_) (fun c_3 => ?_)
  · refine zz_aload_n C dX8_copy_14 rfl (lv_at hl 0 rfl) ?_
    refine zz_ldc (v := -1000000001) C (List.mem_of_getElem? (i := 1) rfl) dX8_copy_15 ?_
    refine zz_callVi (As := [.int (-1000000001 : Int32)]) (rest := []) C (m_X8_finding l E a0 (-1000000001 : Int32) h0 M_2) (cwV 1 C.1.2.2.2.2 gX8_copy_X8_finding rfl rfl rfl hdV_X8_finding ⟨Nat.le_of_ble_eq_true rfl, Nat.le_of_ble_eq_true rfl⟩) (zz_lt h0 (by decide)) (zz_c8 h0) rfl rfl hl.1 rfl (Nat.le_of_ble_eq_true rfl) dX8_copy_17 (fun r_4 M_5 => ?_)
    exact zz_iret C hr dX8_copy_20
  · refine zz_iload_n C dX8_copy_7 rfl (lv_at hl 3 rfl) ?_
    refine zz_callSi (As := [.int x3]) (rest := []) C (m_X8_isSheet l E x3  M_2) (va_cwS 1 C.1.2.2.2.2 gX8_copy_X8_isSheet rfl rfl rfl hdS_X8_isSheet ⟨Nat.le_of_ble_eq_true rfl, Nat.le_of_ble_eq_true rfl⟩) rfl hl.1 rfl (Nat.le_of_ble_eq_true rfl) dX8_copy_8 (fun r_6 M_7 => ?_)
    refine zz_if_ne (tgt := 21) C dX8_copy_11 (by decide) (fun c_8 => ?_) (fun c_8 => ?_)
    · refine zz_aload_n C dX8_copy_14 rfl (lv_at hl 0 rfl) ?_
      refine zz_ldc (v := -1000000001) C (List.mem_of_getElem? (i := 1) rfl) dX8_copy_15 ?_
      refine zz_callVi (As := [.int (-1000000001 : Int32)]) (rest := []) C (m_X8_finding l E a0 (-1000000001 : Int32) h0 M_7) (cwV 1 C.1.2.2.2.2 gX8_copy_X8_finding rfl rfl rfl hdV_X8_finding ⟨Nat.le_of_ble_eq_true rfl, Nat.le_of_ble_eq_true rfl⟩) (zz_lt h0 (by decide)) (zz_c8 h0) rfl rfl hl.1 rfl (Nat.le_of_ble_eq_true rfl) dX8_copy_17 (fun r_35 M_36 => ?_)
      exact zz_iret C hr dX8_copy_20
    · refine zz_aload_n C dX8_copy_21 rfl (lv_at hl 0 rfl) ?_
      refine zz_get C (zz_lt h0 (by decide)) (zz_c8 h0) rfl in_X8_copy_X8 9 (by decide) (List.mem_of_getElem? (i := 2) rfl) rfl dX8_copy_22 ?_
      refine zz_iload_n C dX8_copy_25 rfl (lv_at hl 1 rfl) ?_
      refine zz_aald (t := 3) (g := fun i => 119 + 1 + 2 * i) C (zz_lt (zz_s8_9 h0) (by decide)) (zz_c20 (zz_s8_9 h0)) rfl dX8_copy_26 (fun b_9 => ?_)
      refine zz_astore (lv' := [(6, .ref (E.1 + (119 + 1 + 2 * zz_n x1))), (0, .ref (E.1 + a0)), (1, .int x1), (2, .int x2), (3, .int x3), (4, .int x4), (5, .int x5)]) C dX8_copy_27 hl (by decide) rfl (fun ls hl => ?_)
      refine zz_aload_n C dX8_copy_29 rfl (lv_at hl 1 rfl) ?_
      refine zz_get C (zz_lt h0 (by decide)) (zz_c8 h0) rfl in_X8_copy_X8 9 (by decide) (List.mem_of_getElem? (i := 2) rfl) rfl dX8_copy_30 ?_
      refine zz_iload_n C dX8_copy_33 rfl (lv_at hl 4 rfl) ?_
      refine zz_aald (t := 3) (g := fun i => 119 + 1 + 2 * i) C (zz_lt (zz_s8_9 h0) (by decide)) (zz_c20 (zz_s8_9 h0)) rfl dX8_copy_34 (fun b_10 => ?_)
      refine zz_astore (lv' := [(7, .ref (E.1 + (119 + 1 + 2 * zz_n x3))), (6, .ref (E.1 + (119 + 1 + 2 * zz_n x1))), (0, .ref (E.1 + a0)), (1, .int x1), (2, .int x2), (3, .int x3), (4, .int x4), (5, .int x5)]) C dX8_copy_35 hl (by decide) rfl (fun ls hl => ?_)
      refine zz_aload C dX8_copy_37 (lv_at hl 1 rfl) ?_
      refine zz_callVi (As := []) (rest := []) C (m_X3_isMissing l E (119 + 1 + 2 * zz_n x1) (zz_e20 (zz_s8_9 h0) b_9) M_7) (cwV 0 C.1.2.2.2.2 gX8_copy_X3_isMissing rfl rfl rfl hdV_X3_isMissing ⟨Nat.le_of_ble_eq_true rfl, Nat.le_of_ble_eq_true rfl⟩) (zz_lt (zz_e20 (zz_s8_9 h0) b_9) (by decide)) (zz_c3 (zz_e20 (zz_s8_9 h0) b_9)) rfl rfl hl.1 rfl (Nat.le_of_ble_eq_true rfl) dX8_copy_39 (fun r_11 M_12 => ?_)
      refine zz_if_ne (tgt := 53) C dX8_copy_42 (by decide) (fun c_13 => ?_) (fun c_13 => ?_)
      · refine zz_aload C dX8_copy_45 (lv_at hl 0 rfl) ?_
        refine zz_callVi (As := []) (rest := []) C (m_X3_isMissing l E (119 + 1 + 2 * zz_n x3) (zz_e20 (zz_s8_9 h0) b_10) M_12) (cwV 0 C.1.2.2.2.2 gX8_copy_X3_isMissing rfl rfl rfl hdV_X3_isMissing ⟨Nat.le_of_ble_eq_true rfl, Nat.le_of_ble_eq_true rfl⟩) (zz_lt (zz_e20 (zz_s8_9 h0) b_10) (by decide)) (zz_c3 (zz_e20 (zz_s8_9 h0) b_10)) rfl rfl hl.1 rfl (Nat.le_of_ble_eq_true rfl) dX8_copy_47 (fun r_16 M_17 => ?_)
        refine zz_if_eq (tgt := 60) C dX8_copy_50 (by decide) (fun c_18 => ?_) (fun c_18 => ?_)
        · refine zz_aload C dX8_copy_60 (lv_at hl 1 rfl) ?_
          refine zz_get C (zz_lt (zz_e20 (zz_s8_9 h0) b_9) (by decide)) (zz_c3 (zz_e20 (zz_s8_9 h0) b_9)) rfl in_X8_copy_X3 0 (by decide) (List.mem_of_getElem? (i := 4) rfl) rfl dX8_copy_62 ?_
          refine zz_aload C dX8_copy_65 (lv_at hl 0 rfl) ?_
          refine zz_get C (zz_lt (zz_e20 (zz_s8_9 h0) b_10) (by decide)) (zz_c3 (zz_e20 (zz_s8_9 h0) b_10)) rfl in_X8_copy_X3 0 (by decide) (List.mem_of_getElem? (i := 4) rfl) rfl dX8_copy_67 ?_
          refine zz_icmp_eq (tgt := 80) C dX8_copy_70 (by decide) (fun c_19 => ?_) (fun c_19 => ?_)
          · refine zz_aload C dX8_copy_80 (lv_at hl 1 rfl) ?_
            refine zz_iload_n C dX8_copy_82 rfl (lv_at hl 4 rfl) ?_
            refine zz_iload C dX8_copy_83 (lv_at hl 7 rfl) ?_
            refine zz_callVi (As := [.int x2, .int x5]) (rest := []) C (m_X3_hasRun l E (119 + 1 + 2 * zz_n x1) x2 x5 (zz_e20 (zz_s8_9 h0) b_9) M_17) (cwV 2 C.1.2.2.2.2 gX8_copy_X3_hasRun rfl rfl rfl hdV_X3_hasRun ⟨Nat.le_of_ble_eq_true rfl, Nat.le_of_ble_eq_true rfl⟩) (zz_lt (zz_e20 (zz_s8_9 h0) b_9) (by decide)) (zz_c3 (zz_e20 (zz_s8_9 h0) b_9)) rfl rfl hl.1 rfl (Nat.le_of_ble_eq_true rfl) dX8_copy_85 (fun r_20 M_21 => ?_)
            refine zz_if_eq (tgt := 103) C dX8_copy_88 (by decide) (fun c_22 => ?_) (fun c_22 => ?_)
            · refine zz_aload_n C dX8_copy_103 rfl (lv_at hl 2 rfl) ?_
              refine zz_ldc (v := -1000000001) C (List.mem_of_getElem? (i := 1) rfl) dX8_copy_104 ?_
              refine zz_callVi (As := [.int (-1000000001 : Int32)]) (rest := []) C (m_X8_finding l E a0 (-1000000001 : Int32) h0 M_21) (cwV 1 C.1.2.2.2.2 gX8_copy_X8_finding rfl rfl rfl hdV_X8_finding ⟨Nat.le_of_ble_eq_true rfl, Nat.le_of_ble_eq_true rfl⟩) (zz_lt h0 (by decide)) (zz_c8 h0) rfl rfl hl.1 rfl (Nat.le_of_ble_eq_true rfl) dX8_copy_106 (fun r_23 M_24 => ?_)
              exact zz_iret C hr dX8_copy_109
            · refine zz_aload C dX8_copy_91 (lv_at hl 0 rfl) ?_
              refine zz_iload C dX8_copy_93 (lv_at hl 6 rfl) ?_
              refine zz_iload C dX8_copy_95 (lv_at hl 7 rfl) ?_
              refine zz_callVi (As := [.int x4, .int x5]) (rest := []) C (m_X3_hasRun l E (119 + 1 + 2 * zz_n x3) x4 x5 (zz_e20 (zz_s8_9 h0) b_10) M_21) (cwV 2 C.1.2.2.2.2 gX8_copy_X3_hasRun rfl rfl rfl hdV_X3_hasRun ⟨Nat.le_of_ble_eq_true rfl, Nat.le_of_ble_eq_true rfl⟩) (zz_lt (zz_e20 (zz_s8_9 h0) b_10) (by decide)) (zz_c3 (zz_e20 (zz_s8_9 h0) b_10)) rfl rfl hl.1 rfl (Nat.le_of_ble_eq_true rfl) dX8_copy_97 (fun r_25 M_26 => ?_)
              refine zz_if_ne (tgt := 110) C dX8_copy_100 (by decide) (fun c_27 => ?_) (fun c_27 => ?_)
              · refine zz_aload_n C dX8_copy_103 rfl (lv_at hl 2 rfl) ?_
                refine zz_ldc (v := -1000000001) C (List.mem_of_getElem? (i := 1) rfl) dX8_copy_104 ?_
                refine zz_callVi (As := [.int (-1000000001 : Int32)]) (rest := []) C (m_X8_finding l E a0 (-1000000001 : Int32) h0 M_26) (cwV 1 C.1.2.2.2.2 gX8_copy_X8_finding rfl rfl rfl hdV_X8_finding ⟨Nat.le_of_ble_eq_true rfl, Nat.le_of_ble_eq_true rfl⟩) (zz_lt h0 (by decide)) (zz_c8 h0) rfl rfl hl.1 rfl (Nat.le_of_ble_eq_true rfl) dX8_copy_106 (fun r_29 M_30 => ?_)
                exact zz_iret C hr dX8_copy_109
              · refine zz_aload C dX8_copy_110 (lv_at hl 1 rfl) ?_
                refine zz_get C (zz_lt (zz_e20 (zz_s8_9 h0) b_9) (by decide)) (zz_c3 (zz_e20 (zz_s8_9 h0) b_9)) rfl in_X8_copy_X3 2 (by decide) (List.mem_of_getElem? (i := 6) rfl) rfl dX8_copy_112 ?_
                refine zz_iload_n C dX8_copy_115 rfl (lv_at hl 4 rfl) ?_
                refine zz_aload C dX8_copy_116 (lv_at hl 0 rfl) ?_
                refine zz_get C (zz_lt (zz_e20 (zz_s8_9 h0) b_10) (by decide)) (zz_c3 (zz_e20 (zz_s8_9 h0) b_10)) rfl in_X8_copy_X3 2 (by decide) (List.mem_of_getElem? (i := 6) rfl) rfl dX8_copy_118 ?_
                refine zz_iload C dX8_copy_121 (lv_at hl 6 rfl) ?_
                refine zz_iload C dX8_copy_123 (lv_at hl 7 rfl) ?_
                refine zz_acopyl C hl.1 (zz_lt (zz_s3_2 (zz_e20 (zz_s8_9 h0) b_9)) (by decide)) (zz_lt (zz_s3_2 (zz_e20 (zz_s8_9 h0) b_10)) (by decide)) (zz_c16 (zz_s3_2 (zz_e20 (zz_s8_9 h0) b_9))) (fun _ => zz_c16 (zz_s3_2 (zz_e20 (zz_s8_9 h0) b_10))) (List.mem_of_getElem? (i := 7) rfl) (List.mem_of_getElem? (i := 8) rfl) (List.mem_of_getElem? (i := 9) rfl) (List.mem_of_getElem? (i := 10) rfl) (Nat.le_of_ble_eq_true rfl) (Nat.le_of_ble_eq_true rfl) dX8_copy_125 (fun M_28 => ?_)
                refine zz_iload C dX8_copy_128 (lv_at hl 7 rfl) ?_
                exact zz_iret C hr dX8_copy_130
          · refine zz_aload_n C dX8_copy_73 rfl (lv_at hl 2 rfl) ?_
            refine zz_ldc (v := -1000000003) C (List.mem_of_getElem? (i := 5) rfl) dX8_copy_74 ?_
            refine zz_callVi (As := [.int (-1000000003 : Int32)]) (rest := []) C (m_X8_finding l E a0 (-1000000003 : Int32) h0 M_17) (cwV 1 C.1.2.2.2.2 gX8_copy_X8_finding rfl rfl rfl hdV_X8_finding ⟨Nat.le_of_ble_eq_true rfl, Nat.le_of_ble_eq_true rfl⟩) (zz_lt h0 (by decide)) (zz_c8 h0) rfl rfl hl.1 rfl (Nat.le_of_ble_eq_true rfl) dX8_copy_76 (fun r_31 M_32 => ?_)
            exact zz_iret C hr dX8_copy_79
        · refine zz_aload_n C dX8_copy_53 rfl (lv_at hl 2 rfl) ?_
          refine zz_ldc (v := -1000000006) C (List.mem_of_getElem? (i := 3) rfl) dX8_copy_54 ?_
          refine zz_callVi (As := [.int (-1000000006 : Int32)]) (rest := []) C (m_X8_finding l E a0 (-1000000006 : Int32) h0 M_17) (cwV 1 C.1.2.2.2.2 gX8_copy_X8_finding rfl rfl rfl hdV_X8_finding ⟨Nat.le_of_ble_eq_true rfl, Nat.le_of_ble_eq_true rfl⟩) (zz_lt h0 (by decide)) (zz_c8 h0) rfl rfl hl.1 rfl (Nat.le_of_ble_eq_true rfl) dX8_copy_56 (fun r_33 M_34 => ?_)
          exact zz_iret C hr dX8_copy_59
      · refine zz_aload_n C dX8_copy_53 rfl (lv_at hl 2 rfl) ?_
        refine zz_ldc (v := -1000000006) C (List.mem_of_getElem? (i := 3) rfl) dX8_copy_54 ?_
        refine zz_callVi (As := [.int (-1000000006 : Int32)]) (rest := []) C (m_X8_finding l E a0 (-1000000006 : Int32) h0 M_12) (cwV 1 C.1.2.2.2.2 gX8_copy_X8_finding rfl rfl rfl hdV_X8_finding ⟨Nat.le_of_ble_eq_true rfl, Nat.le_of_ble_eq_true rfl⟩) (zz_lt h0 (by decide)) (zz_c8 h0) rfl rfl hl.1 rfl (Nat.le_of_ble_eq_true rfl) dX8_copy_56 (fun r_14 M_15 => ?_)
        exact zz_iret C hr dX8_copy_59
-- X8_lays ('X8', 'lays', '(II)I')
theorem in_X8_lays_X1 : ∀ w ∈ u_ws RX1 TX1 3, w ∈ wsX8_lays := fun _ h => List.mem_cons_of_mem _ (List.mem_append_left _ (List.mem_append_left _ (List.mem_append_left _ (List.mem_append_left _ (List.mem_append_right _ h)))))
theorem in_X8_lays_X3 : ∀ w ∈ u_ws RX3 TX3 3, w ∈ wsX8_lays := fun _ h => List.mem_cons_of_mem _ (List.mem_append_left _ (List.mem_append_left _ (List.mem_append_left _ (List.mem_append_right _ h))))
theorem in_X8_lays_X7 : ∀ w ∈ u_ws RX7 TX7 4, w ∈ wsX8_lays := fun _ h => List.mem_cons_of_mem _ (List.mem_append_left _ (List.mem_append_left _ (List.mem_append_right _ h)))
theorem in_X8_lays_X8 : ∀ w ∈ u_ws RX8 TX8 11, w ∈ wsX8_lays := fun _ h => List.mem_cons_of_mem _ (List.mem_append_left _ (List.mem_append_left _ (List.mem_append_left _ (List.mem_append_left _ (List.mem_append_left _ (List.mem_append_right _ h))))))
theorem hdV_X8_wrongSheet : yX8_wrongSheet.cls = RX8 ∧ yX8_wrongSheet.cls ≠ "java/lang/invoke/MethodHandle" ∧ yX8_wrongSheet.cls ≠ "java/lang/invoke/VarHandle" ∧ (parseMethodDescriptor yX8_wrongSheet.desc).map (fun d => d.parameters.length) = some 1 := by decide +kernel
def b_X8_lays_59 : Nat → Nat → Nat → Nat → Int32 → Int32 → zz_M → Option (Int32 × zz_M)
  | 0 => fun _ _ _ _ _ _ => none
  | n + 1 => fun a0 a4 a5 x6 x7 M => (if (zz_i M a4 1) ≤ x7 then some (x6, M) else (if zz_in x7 40 = true then zz_w (zz_j M (a4 + 1) (zz_n x7)) (fun y8_14 => (if (lg_cmp y8_14 (0 : Int64)) < 0 then some (x6, M) else (if 0 ≤ (lg_cmp y8_14 (4 : Int64)) then some (x6, M) else zz_bd (f_X0_isThick a5 M) (fun r_17 M_18 => (if r_17 = 0 then (if zz_in (y8_14.toInt32) 4 = true then zz_bd (f_X0_dipInto a5 (((1 + 1) + 1) + 1 + zz_n (y8_14.toInt32)) M_18) (fun _ M_21 => zz_w (x6 + (1 : Int32)) (fun x6_22 => zz_w (x7 + (1 : Int32)) (fun x7_23 => (b_X8_lays_59 n) a0 a4 a5 x6_22 x7_23 M_21))) else none) else some (x6, M_18)))))) else none))
set_option maxRecDepth 100000 in
set_option maxHeartbeats 4000000 in
theorem wb_X8_lays_59 {p : Program} {l : Launch} {e : Env} {s : State} {m : MethodId} {args : Array Value} {below : List Frame} {meth : Method} {c : Code} {E : zz_E} (C : zz_C E RX8 cX8_lays 10 wsX8_lays p s m args meth c) (hr : meth.sig.returnType = (some .int)) : ∀ (n : Nat) (a0 : Nat) (a4 : Nat) (a5 : Nat) (x6 : Int32) (x7 : Int32) (ha0 : zz_sh a0 = 8) (ha4 : zz_sh a4 = 3) (ha5 : zz_sh a5 = 0) (M : zz_M) (ls : Array Slot), lv_has ls 10 [(0, .ref (E.1 + a0)), (4, .ref (E.1 + a4)), (5, .ref (E.1 + a5)), (6, .int x6), (7, .int x7)] → zz_Z E p l e (zz_rm 4) s m args below meth c (zz_Q (zz_pi E) E below args s) (b_X8_lays_59 n a0 a4 a5 x6 x7 M) M (F0 m 59 ls []) := by
  intro n
  induction n with
  | zero => intro a0 a4 a5 x6 x7 ha0 ha4 ha5 M ls hl; exact zz_none
  | succ n ih =>
    intro a0 a4 a5 x6 x7 ha0 ha4 ha5 M ls hl
    rw [b_X8_lays_59]
    refine zz_iload C dX8_lays_59 (lv_at hl 4 rfl) ?_
    refine zz_aload C dX8_lays_61 (lv_at hl 1 rfl) ?_
    refine zz_get C (zz_lt ha4 (by decide)) (zz_c3 ha4) rfl in_X8_lays_X3 1 (by decide) (List.mem_of_getElem? (i := 5) rfl) rfl dX8_lays_63 ?_
    refine zz_icmp_ge (tgt := 134) C dX8_lays_66 (by decide) (fun c_13 => ?_) (fun c_13 => ?_)
    · refine zz_iload C dX8_lays_134 (lv_at hl 3 rfl) ?_
      exact zz_iret C hr dX8_lays_136
    · refine zz_aload C dX8_lays_69 (lv_at hl 1 rfl) ?_
      refine zz_get C (zz_lt ha4 (by decide)) (zz_c3 ha4) rfl in_X8_lays_X3 2 (by decide) (List.mem_of_getElem? (i := 6) rfl) rfl dX8_lays_71 ?_
      refine zz_iload C dX8_lays_74 (lv_at hl 4 rfl) ?_
      refine zz_lald C (zz_lt (zz_s3_2 ha4) (by decide)) (zz_c16 (zz_s3_2 ha4)) dX8_lays_76 ?_
      refine zz_lstore C (fun y8_14 => [(8, .long y8_14), (0, .ref (E.1 + a0)), (4, .ref (E.1 + a4)), (5, .ref (E.1 + a5)), (6, .int x6), (7, .int x7)]) dX8_lays_77 hl (by decide) (fun _ => rfl) (fun y8_14 ls hl => ?_)
      refine zz_lload C dX8_lays_79 (lv_at hl 0 rfl) ?_
      refine zz_lconst (v := 0) C dX8_lays_81 rfl ?_
      refine zz_lcmp C dX8_lays_82 ?_
      refine zz_if_lt (tgt := 134) C dX8_lays_83 (by decide) (fun c_15 => ?_) (fun c_15 => ?_)
      · refine zz_iload C dX8_lays_134 (lv_at hl 4 rfl) ?_
        exact zz_iret C hr dX8_lays_136
      · refine zz_lload C dX8_lays_86 (lv_at hl 0 rfl) ?_
        refine zz_ldc2 (v := 4) C (List.mem_of_getElem? (i := 7) rfl) dX8_lays_88 ?_
        refine zz_lcmp C dX8_lays_91 ?_
        refine zz_if_ge (tgt := 134) C dX8_lays_92 (by decide) (fun c_16 => ?_) (fun c_16 => ?_)
        · refine zz_iload C dX8_lays_134 (lv_at hl 4 rfl) ?_
          exact zz_iret C hr dX8_lays_136
        · refine zz_aload C dX8_lays_95 (lv_at hl 3 rfl) ?_
          refine zz_callVi (As := []) (rest := []) C (m_X0_isThick l E a5 ha5 M) (cwV 0 C.1.2.2.2.2 gX8_lays_X0_isThick rfl rfl rfl hdV_X0_isThick ⟨Nat.le_of_ble_eq_true rfl, Nat.le_of_ble_eq_true rfl⟩) (zz_lt ha5 (by decide)) (zz_c0 ha5) rfl rfl hl.1 rfl (Nat.le_of_ble_eq_true rfl) dX8_lays_97 (fun r_17 M_18 => ?_)
          refine zz_if_eq (tgt := 106) C dX8_lays_100 (by decide) (fun c_19 => ?_) (fun c_19 => ?_)
          · refine zz_aload C dX8_lays_106 (lv_at hl 3 rfl) ?_
            refine zz_aload_n C dX8_lays_108 rfl (lv_at hl 1 rfl) ?_
            refine zz_get C (zz_lt ha0 (by decide)) (zz_c8 ha0) rfl in_X8_lays_X8 0 (by decide) (List.mem_of_getElem? (i := 1) rfl) rfl dX8_lays_109 ?_
            refine zz_get C (zz_lt (zz_s8_0 ha0) (by decide)) (zz_c1 (zz_s8_0 ha0)) rfl in_X8_lays_X1 0 (by decide) (List.mem_of_getElem? (i := 8) rfl) rfl dX8_lays_112 ?_
            refine zz_get C (zz_lt (zz_s1_0 (zz_s8_0 ha0)) (by decide)) (zz_c7 (zz_s1_0 (zz_s8_0 ha0))) rfl in_X8_lays_X7 0 (by decide) (List.mem_of_getElem? (i := 9) rfl) rfl dX8_lays_115 ?_
            refine zz_lload C dX8_lays_118 (lv_at hl 0 rfl) ?_
            refine zz_l2i C dX8_lays_120 ?_
            refine zz_aald (t := 4) (g := fun i => ((1 + 1) + 1) + 1 + i) C (zz_lt (zz_s7_0 (zz_s1_0 (zz_s8_0 ha0))) (by decide)) (zz_c21 (zz_s7_0 (zz_s1_0 (zz_s8_0 ha0)))) rfl dX8_lays_121 (fun b_20 => ?_)
            refine zz_callVv (As := [.ref (E.1 + (((1 + 1) + 1) + 1 + zz_n (y8_14.toInt32)))]) (rest := []) C (m_X0_dipInto l E a5 (((1 + 1) + 1) + 1 + zz_n (y8_14.toInt32)) ha5 (zz_e21 (zz_s7_0 (zz_s1_0 (zz_s8_0 ha0))) b_20) M_18) (cwV 1 C.1.2.2.2.2 gX8_lays_X0_dipInto rfl rfl rfl hdV_X0_dipInto ⟨Nat.le_of_ble_eq_true rfl, Nat.le_of_ble_eq_true rfl⟩) (zz_lt ha5 (by decide)) (zz_c0 ha5) rfl rfl hl.1 rfl (Nat.le_of_ble_eq_true rfl) dX8_lays_122 (fun _ M_21 => ?_)
            refine zz_iinc (k9 := 4) (d := 1) C (fun x6_22 => [(6, .int x6_22), (8, .long y8_14), (0, .ref (E.1 + a0)), (4, .ref (E.1 + a4)), (5, .ref (E.1 + a5)), (7, .int x7)]) dX8_lays_125 hl rfl (by decide) (by decide) (fun _ => rfl) (fun x6_22 ls hl => ?_)
            refine zz_iinc (k9 := 5) (d := 1) C (fun x7_23 => [(7, .int x7_23), (6, .int x6_22), (8, .long y8_14), (0, .ref (E.1 + a0)), (4, .ref (E.1 + a4)), (5, .ref (E.1 + a5))]) dX8_lays_128 hl rfl (by decide) (by decide) (fun _ => rfl) (fun x7_23 ls hl => ?_)
            refine zz_goto (tgt := 59) C dX8_lays_131 (by decide) ?_
            exact ih a0 a4 a5 x6_22 x7_23 ha0 ha4 ha5 M_21 ls (lv_sub hl [3, 4, 5, 1, 0] rfl)
          · refine zz_goto (tgt := 134) C dX8_lays_103 (by decide) ?_
            refine zz_iload C dX8_lays_134 (lv_at hl 4 rfl) ?_
            exact zz_iret C hr dX8_lays_136
def f_X8_lays (a0 : Nat) (x1 : Int32) (x2 : Int32) (M : zz_M) : Option (Int32 × zz_M) := zz_bd (f_X8_wrongSheet a0 x1 M) (fun r_1 M_2 => (if r_1 = 0 then zz_bd (f_X1_has 1 x2 M_2) (fun r_4 M_5 => (if r_4 = 0 then zz_bd (f_X8_finding a0 (-1000000001 : Int32) M_5) (fun r_9 M_10 => some (r_9, M_10)) else (if zz_in x1 4 = true then (if zz_in x2 10 = true then b_X8_lays_59  zz_fuel a0 (119 + 1 + 2 * zz_n x1) ((1 + 7) + 1 + 2 * zz_n x2) (0 : Int32) (0 : Int32) M_5 else none) else none))) else zz_bd (f_X8_finding a0 r_1 M_2) (fun r_11 M_12 => some (r_11, M_12))))
set_option maxRecDepth 100000 in
set_option maxHeartbeats 4000000 in
theorem m_X8_lays (l : Launch) (E : zz_E) (a0 : Nat) (x1 : Int32) (x2 : Int32) (h0 : zz_sh a0 = 8) (M : zz_M) : zz_Met (zz_pi E) l yX8_lays wsX8_lays 4 E [.ref (E.1 + a0), .int x1, .int x2] M (f_X8_lays a0 x1 x2 M) := by
  refine zz_met (cc := cX8_lays) (nL := 10) (ret := (some .int)) (by decide) rfl (Nat.le_of_ble_eq_true rfl) ?_
  intro p e s m below meth c C hr ls hl
  have C : zz_C E RX8 cX8_lays 10 wsX8_lays p s m [.ref (E.1 + a0), .int x1, .int x2].toArray meth c := C
  have hl : lv_has ls 10 [(0, .ref (E.1 + a0)), (1, .int x1), (2, .int x2)] := hl
  unfold f_X8_lays
  refine zz_aload_n C dX8_lays_0 rfl (lv_at hl 0 rfl) ?_
  refine zz_iload_n C dX8_lays_1 rfl (lv_at hl 1 rfl) ?_
  refine zz_callVi (As := [.int x1]) (rest := []) C (m_X8_wrongSheet l E a0 x1 h0 M) (cwV 1 C.1.2.2.2.2 gX8_lays_X8_wrongSheet rfl rfl rfl hdV_X8_wrongSheet ⟨Nat.le_of_ble_eq_true rfl, Nat.le_of_ble_eq_true rfl⟩) (zz_lt h0 (by decide)) (zz_c8 h0) rfl rfl hl.1 rfl (Nat.le_of_ble_eq_true rfl) dX8_lays_2 (fun r_1 M_2 => ?_)
  refine zz_istored_n (lv' := [(3, .int r_1), (0, .ref (E.1 + a0)), (1, .int x1), (2, .int x2)]) C dX8_lays_5 rfl hl (by decide) rfl (fun ls hl => ?_)
  refine zz_iload_n C dX8_lays_6 rfl (lv_at hl 0 rfl) ?_
  refine zz_if_eq (tgt := 16) C dX8_lays_7 (by decide) (fun c_3 => ?_) (fun c_3 => ?_)
  · refine zz_aload_n C dX8_lays_16 rfl (lv_at hl 1 rfl) ?_
    refine zz_get C (zz_lt h0 (by decide)) (zz_c8 h0) rfl in_X8_lays_X8 0 (by decide) (List.mem_of_getElem? (i := 1) rfl) rfl dX8_lays_17 ?_
    refine zz_iload_n C dX8_lays_20 rfl (lv_at hl 3 rfl) ?_
    refine zz_callVi (As := [.int x2]) (rest := []) C (m_X1_has l E 1 x2 (zz_s8_0 h0) M_2) (cwV 1 C.1.2.2.2.2 gX8_lays_X1_has rfl rfl rfl hdV_X1_has ⟨Nat.le_of_ble_eq_true rfl, Nat.le_of_ble_eq_true rfl⟩) (zz_lt (zz_s8_0 h0) (by decide)) (zz_c1 (zz_s8_0 h0)) rfl rfl hl.1 rfl (Nat.le_of_ble_eq_true rfl) dX8_lays_21 (fun r_4 M_5 => ?_)
    refine zz_if_ne (tgt := 34) C dX8_lays_24 (by decide) (fun c_6 => ?_) (fun c_6 => ?_)
    · refine zz_aload_n C dX8_lays_27 rfl (lv_at hl 1 rfl) ?_
      refine zz_ldc (v := -1000000001) C (List.mem_of_getElem? (i := 2) rfl) dX8_lays_28 ?_
      refine zz_callVi (As := [.int (-1000000001 : Int32)]) (rest := []) C (m_X8_finding l E a0 (-1000000001 : Int32) h0 M_5) (cwV 1 C.1.2.2.2.2 gX8_lays_X8_finding rfl rfl rfl hdV_X8_finding ⟨Nat.le_of_ble_eq_true rfl, Nat.le_of_ble_eq_true rfl⟩) (zz_lt h0 (by decide)) (zz_c8 h0) rfl rfl hl.1 rfl (Nat.le_of_ble_eq_true rfl) dX8_lays_30 (fun r_9 M_10 => ?_)
      exact zz_iret C hr dX8_lays_33
    · refine zz_aload_n C dX8_lays_34 rfl (lv_at hl 1 rfl) ?_
      refine zz_get C (zz_lt h0 (by decide)) (zz_c8 h0) rfl in_X8_lays_X8 9 (by decide) (List.mem_of_getElem? (i := 3) rfl) rfl dX8_lays_35 ?_
      refine zz_iload_n C dX8_lays_38 rfl (lv_at hl 2 rfl) ?_
      refine zz_aald (t := 3) (g := fun i => 119 + 1 + 2 * i) C (zz_lt (zz_s8_9 h0) (by decide)) (zz_c20 (zz_s8_9 h0)) rfl dX8_lays_39 (fun b_7 => ?_)
      refine zz_astore (lv' := [(4, .ref (E.1 + (119 + 1 + 2 * zz_n x1))), (3, .int r_1), (0, .ref (E.1 + a0)), (1, .int x1), (2, .int x2)]) C dX8_lays_40 hl (by decide) rfl (fun ls hl => ?_)
      refine zz_aload_n C dX8_lays_42 rfl (lv_at hl 2 rfl) ?_
      refine zz_get C (zz_lt h0 (by decide)) (zz_c8 h0) rfl in_X8_lays_X8 0 (by decide) (List.mem_of_getElem? (i := 1) rfl) rfl dX8_lays_43 ?_
      refine zz_get C (zz_lt (zz_s8_0 h0) (by decide)) (zz_c1 (zz_s8_0 h0)) rfl in_X8_lays_X1 1 (by decide) (List.mem_of_getElem? (i := 4) rfl) rfl dX8_lays_46 ?_
      refine zz_iload_n C dX8_lays_49 rfl (lv_at hl 4 rfl) ?_
      refine zz_aald (t := 2) (g := fun i => (1 + 7) + 1 + 2 * i) C (zz_lt (zz_s1_1 (zz_s8_0 h0)) (by decide)) (zz_c18 (zz_s1_1 (zz_s8_0 h0))) rfl dX8_lays_50 (fun b_8 => ?_)
      refine zz_astore (lv' := [(5, .ref (E.1 + ((1 + 7) + 1 + 2 * zz_n x2))), (4, .ref (E.1 + (119 + 1 + 2 * zz_n x1))), (3, .int r_1), (0, .ref (E.1 + a0)), (1, .int x1), (2, .int x2)]) C dX8_lays_51 hl (by decide) rfl (fun ls hl => ?_)
      refine zz_iconst (v := 0) C dX8_lays_53 (by decide) ?_
      refine zz_istored (lv' := [(6, .int (0 : Int32)), (5, .ref (E.1 + ((1 + 7) + 1 + 2 * zz_n x2))), (4, .ref (E.1 + (119 + 1 + 2 * zz_n x1))), (3, .int r_1), (0, .ref (E.1 + a0)), (1, .int x1), (2, .int x2)]) C dX8_lays_54 hl (by decide) rfl (fun ls hl => ?_)
      refine zz_iconst (v := 0) C dX8_lays_56 (by decide) ?_
      refine zz_istored (lv' := [(7, .int (0 : Int32)), (6, .int (0 : Int32)), (5, .ref (E.1 + ((1 + 7) + 1 + 2 * zz_n x2))), (4, .ref (E.1 + (119 + 1 + 2 * zz_n x1))), (3, .int r_1), (0, .ref (E.1 + a0)), (1, .int x1), (2, .int x2)]) C dX8_lays_57 hl (by decide) rfl (fun ls hl => ?_)
      exact wb_X8_lays_59 C hr  zz_fuel a0 (119 + 1 + 2 * zz_n x1) ((1 + 7) + 1 + 2 * zz_n x2) (0 : Int32) (0 : Int32) h0 (zz_e20 (zz_s8_9 h0) b_7) (zz_e18 (zz_s1_1 (zz_s8_0 h0)) b_8) M_5 ls (lv_sub hl [5, 3, 2, 1, 0] rfl)
  · refine zz_aload_n C dX8_lays_10 rfl (lv_at hl 1 rfl) ?_
    refine zz_iload_n C dX8_lays_11 rfl (lv_at hl 0 rfl) ?_
    refine zz_callVi (As := [.int r_1]) (rest := []) C (m_X8_finding l E a0 r_1 h0 M_2) (cwV 1 C.1.2.2.2.2 gX8_lays_X8_finding rfl rfl rfl hdV_X8_finding ⟨Nat.le_of_ble_eq_true rfl, Nat.le_of_ble_eq_true rfl⟩) (zz_lt h0 (by decide)) (zz_c8 h0) rfl rfl hl.1 rfl (Nat.le_of_ble_eq_true rfl) dX8_lays_12 (fun r_11 M_12 => ?_)
    exact zz_iret C hr dX8_lays_15
-- X8_show ('X8', 'show', '(II)I')
theorem in_X8_show_X0 : ∀ w ∈ u_ws RX0 TX0 5, w ∈ wsX8_show := fun _ h => List.mem_cons_of_mem _ (List.mem_append_left _ (List.mem_append_right _ h))
theorem in_X8_show_X1 : ∀ w ∈ u_ws RX1 TX1 3, w ∈ wsX8_show := fun _ h => List.mem_cons_of_mem _ (List.mem_append_left _ (List.mem_append_left _ (List.mem_append_right _ h)))
theorem in_X8_show_X3 : ∀ w ∈ u_ws RX3 TX3 3, w ∈ wsX8_show := fun _ h => List.mem_cons_of_mem _ (List.mem_append_right _ h)
theorem in_X8_show_X8 : ∀ w ∈ u_ws RX8 TX8 11, w ∈ wsX8_show := fun _ h => List.mem_cons_of_mem _ (List.mem_append_left _ (List.mem_append_left _ (List.mem_append_left _ (List.mem_append_right _ h))))
def b_X8_show_71 : Nat → Nat → Nat → Int32 → Int32 → zz_M → Option (Int32 × zz_M)
  | 0 => fun _ _ _ _ _ => none
  | n + 1 => fun a4 a5 x6 x7 M => (if x6 ≤ x7 then some (x6, M) else (if zz_in x7 40 = true then zz_bd (f_X3_put a4 x7 ((zz_i M (a5 + 1) (zz_n x7)).toInt64) M) (fun _ M_15 => zz_w (x7 + (1 : Int32)) (fun x7_16 => (b_X8_show_71 n) a4 a5 x6 x7_16 M_15)) else none))
set_option maxRecDepth 100000 in
set_option maxHeartbeats 4000000 in
theorem wb_X8_show_71 {p : Program} {l : Launch} {e : Env} {s : State} {m : MethodId} {args : Array Value} {below : List Frame} {meth : Method} {c : Code} {E : zz_E} (C : zz_C E RX8 cX8_show 8 wsX8_show p s m args meth c) (hr : meth.sig.returnType = (some .int)) : ∀ (n : Nat) (a4 : Nat) (a5 : Nat) (x6 : Int32) (x7 : Int32) (ha4 : zz_sh a4 = 3) (ha5 : zz_sh a5 = 0) (M : zz_M) (ls : Array Slot), lv_has ls 8 [(4, .ref (E.1 + a4)), (5, .ref (E.1 + a5)), (6, .int x6), (7, .int x7)] → zz_Z E p l e (zz_rm 4) s m args below meth c (zz_Q (zz_pi E) E below args s) (b_X8_show_71 n a4 a5 x6 x7 M) M (F0 m 71 ls []) := by
  intro n
  induction n with
  | zero => intro a4 a5 x6 x7 ha4 ha5 M ls hl; exact zz_none
  | succ n ih =>
    intro a4 a5 x6 x7 ha4 ha5 M ls hl
    rw [b_X8_show_71]
    refine zz_iload C dX8_show_71 (lv_at hl 3 rfl) ?_
    refine zz_iload C dX8_show_73 (lv_at hl 2 rfl) ?_
    refine zz_icmp_ge (tgt := 100) C dX8_show_75 (by decide) (fun c_14 => ?_) (fun c_14 => ?_)
    · refine zz_iload C dX8_show_100 (lv_at hl 2 rfl) ?_
      exact zz_iret C hr dX8_show_102
    · refine zz_aload C dX8_show_78 (lv_at hl 0 rfl) ?_
      refine zz_iload C dX8_show_80 (lv_at hl 3 rfl) ?_
      refine zz_aload C dX8_show_82 (lv_at hl 1 rfl) ?_
      refine zz_get C (zz_lt ha5 (by decide)) (zz_c0 ha5) rfl in_X8_show_X0 4 (by decide) (List.mem_of_getElem? (i := 11) rfl) rfl dX8_show_84 ?_
      refine zz_iload C dX8_show_87 (lv_at hl 3 rfl) ?_
      refine zz_iald C (zz_lt (zz_s0_4 ha5) (by decide)) (zz_c10 (zz_s0_4 ha5)) dX8_show_89 ?_
      refine zz_i2l C dX8_show_90 ?_
      refine zz_callVv (As := [.int x7, .long ((zz_i M (a5 + 1) (zz_n x7)).toInt64)]) (rest := []) C (m_X3_put l E a4 x7 ((zz_i M (a5 + 1) (zz_n x7)).toInt64) ha4 M) (cwV 2 C.1.2.2.2.2 gX8_show_X3_put rfl rfl rfl hdV_X3_put ⟨Nat.le_of_ble_eq_true rfl, Nat.le_of_ble_eq_true rfl⟩) (zz_lt ha4 (by decide)) (zz_c3 ha4) rfl rfl hl.1 rfl (Nat.le_of_ble_eq_true rfl) dX8_show_91 (fun _ M_15 => ?_)
      refine zz_iinc (k9 := 3) (d := 1) C (fun x7_16 => [(7, .int x7_16), (4, .ref (E.1 + a4)), (5, .ref (E.1 + a5)), (6, .int x6)]) dX8_show_94 hl rfl (by decide) (by decide) (fun _ => rfl) (fun x7_16 ls hl => ?_)
      refine zz_goto (tgt := 71) C dX8_show_97 (by decide) ?_
      exact ih a4 a5 x6 x7_16 ha4 ha5 M_15 ls (lv_sub hl [1, 2, 3, 0] rfl)
def f_X8_show (a0 : Nat) (x1 : Int32) (x2 : Int32) (M : zz_M) : Option (Int32 × zz_M) := zz_bd (f_X8_wrongSheet a0 x1 M) (fun r_1 M_2 => (if r_1 = 0 then zz_bd (f_X1_has 1 x2 M_2) (fun r_4 M_5 => (if r_4 = 0 then zz_bd (f_X8_finding a0 (-1000000001 : Int32) M_5) (fun r_10 M_11 => some (r_10, M_11)) else (if zz_in x1 4 = true then (if zz_in x2 10 = true then zz_w (if (zz_i M_5 (119 + 1 + 2 * zz_n x1) 1) < (zz_i M_5 ((1 + 7) + 1 + 2 * zz_n x2) 1) then (zz_i M_5 (119 + 1 + 2 * zz_n x1) 1) else (zz_i M_5 ((1 + 7) + 1 + 2 * zz_n x2) 1)) (fun x6_9 => b_X8_show_71  zz_fuel (119 + 1 + 2 * zz_n x1) ((1 + 7) + 1 + 2 * zz_n x2) x6_9 (0 : Int32) M_5) else none) else none))) else zz_bd (f_X8_finding a0 r_1 M_2) (fun r_12 M_13 => some (r_12, M_13))))
set_option maxRecDepth 100000 in
set_option maxHeartbeats 4000000 in
theorem m_X8_show (l : Launch) (E : zz_E) (a0 : Nat) (x1 : Int32) (x2 : Int32) (h0 : zz_sh a0 = 8) (M : zz_M) : zz_Met (zz_pi E) l yX8_show wsX8_show 4 E [.ref (E.1 + a0), .int x1, .int x2] M (f_X8_show a0 x1 x2 M) := by
  refine zz_met (cc := cX8_show) (nL := 8) (ret := (some .int)) (by decide) rfl (Nat.le_of_ble_eq_true rfl) ?_
  intro p e s m below meth c C hr ls hl
  have C : zz_C E RX8 cX8_show 8 wsX8_show p s m [.ref (E.1 + a0), .int x1, .int x2].toArray meth c := C
  have hl : lv_has ls 8 [(0, .ref (E.1 + a0)), (1, .int x1), (2, .int x2)] := hl
  unfold f_X8_show
  refine zz_aload_n C dX8_show_0 rfl (lv_at hl 0 rfl) ?_
  refine zz_iload_n C dX8_show_1 rfl (lv_at hl 1 rfl) ?_
  refine zz_callVi (As := [.int x1]) (rest := []) C (m_X8_wrongSheet l E a0 x1 h0 M) (cwV 1 C.1.2.2.2.2 gX8_show_X8_wrongSheet rfl rfl rfl hdV_X8_wrongSheet ⟨Nat.le_of_ble_eq_true rfl, Nat.le_of_ble_eq_true rfl⟩) (zz_lt h0 (by decide)) (zz_c8 h0) rfl rfl hl.1 rfl (Nat.le_of_ble_eq_true rfl) dX8_show_2 (fun r_1 M_2 => ?_)
  refine zz_istored_n (lv' := [(3, .int r_1), (0, .ref (E.1 + a0)), (1, .int x1), (2, .int x2)]) C dX8_show_5 rfl hl (by decide) rfl (fun ls hl => ?_)
  refine zz_iload_n C dX8_show_6 rfl (lv_at hl 0 rfl) ?_
  refine zz_if_eq (tgt := 16) C dX8_show_7 (by decide) (fun c_3 => ?_) (fun c_3 => ?_)
  · refine zz_aload_n C dX8_show_16 rfl (lv_at hl 1 rfl) ?_
    refine zz_get C (zz_lt h0 (by decide)) (zz_c8 h0) rfl in_X8_show_X8 0 (by decide) (List.mem_of_getElem? (i := 1) rfl) rfl dX8_show_17 ?_
    refine zz_iload_n C dX8_show_20 rfl (lv_at hl 3 rfl) ?_
    refine zz_callVi (As := [.int x2]) (rest := []) C (m_X1_has l E 1 x2 (zz_s8_0 h0) M_2) (cwV 1 C.1.2.2.2.2 gX8_show_X1_has rfl rfl rfl hdV_X1_has ⟨Nat.le_of_ble_eq_true rfl, Nat.le_of_ble_eq_true rfl⟩) (zz_lt (zz_s8_0 h0) (by decide)) (zz_c1 (zz_s8_0 h0)) rfl rfl hl.1 rfl (Nat.le_of_ble_eq_true rfl) dX8_show_21 (fun r_4 M_5 => ?_)
    refine zz_if_ne (tgt := 34) C dX8_show_24 (by decide) (fun c_6 => ?_) (fun c_6 => ?_)
    · refine zz_aload_n C dX8_show_27 rfl (lv_at hl 1 rfl) ?_
      refine zz_ldc (v := -1000000001) C (List.mem_of_getElem? (i := 2) rfl) dX8_show_28 ?_
      refine zz_callVi (As := [.int (-1000000001 : Int32)]) (rest := []) C (m_X8_finding l E a0 (-1000000001 : Int32) h0 M_5) (cwV 1 C.1.2.2.2.2 gX8_show_X8_finding rfl rfl rfl hdV_X8_finding ⟨Nat.le_of_ble_eq_true rfl, Nat.le_of_ble_eq_true rfl⟩) (zz_lt h0 (by decide)) (zz_c8 h0) rfl rfl hl.1 rfl (Nat.le_of_ble_eq_true rfl) dX8_show_30 (fun r_10 M_11 => ?_)
      exact zz_iret C hr dX8_show_33
    · refine zz_aload_n C dX8_show_34 rfl (lv_at hl 1 rfl) ?_
      refine zz_get C (zz_lt h0 (by decide)) (zz_c8 h0) rfl in_X8_show_X8 9 (by decide) (List.mem_of_getElem? (i := 3) rfl) rfl dX8_show_35 ?_
      refine zz_iload_n C dX8_show_38 rfl (lv_at hl 2 rfl) ?_
      refine zz_aald (t := 3) (g := fun i => 119 + 1 + 2 * i) C (zz_lt (zz_s8_9 h0) (by decide)) (zz_c20 (zz_s8_9 h0)) rfl dX8_show_39 (fun b_7 => ?_)
      refine zz_astore (lv' := [(4, .ref (E.1 + (119 + 1 + 2 * zz_n x1))), (3, .int r_1), (0, .ref (E.1 + a0)), (1, .int x1), (2, .int x2)]) C dX8_show_40 hl (by decide) rfl (fun ls hl => ?_)
      refine zz_aload_n C dX8_show_42 rfl (lv_at hl 2 rfl) ?_
      refine zz_get C (zz_lt h0 (by decide)) (zz_c8 h0) rfl in_X8_show_X8 0 (by decide) (List.mem_of_getElem? (i := 1) rfl) rfl dX8_show_43 ?_
      refine zz_get C (zz_lt (zz_s8_0 h0) (by decide)) (zz_c1 (zz_s8_0 h0)) rfl in_X8_show_X1 1 (by decide) (List.mem_of_getElem? (i := 4) rfl) rfl dX8_show_46 ?_
      refine zz_iload_n C dX8_show_49 rfl (lv_at hl 4 rfl) ?_
      refine zz_aald (t := 2) (g := fun i => (1 + 7) + 1 + 2 * i) C (zz_lt (zz_s1_1 (zz_s8_0 h0)) (by decide)) (zz_c18 (zz_s1_1 (zz_s8_0 h0))) rfl dX8_show_50 (fun b_8 => ?_)
      refine zz_astore (lv' := [(5, .ref (E.1 + ((1 + 7) + 1 + 2 * zz_n x2))), (4, .ref (E.1 + (119 + 1 + 2 * zz_n x1))), (3, .int r_1), (0, .ref (E.1 + a0)), (1, .int x1), (2, .int x2)]) C dX8_show_51 hl (by decide) rfl (fun ls hl => ?_)
      refine zz_aload C dX8_show_53 (lv_at hl 0 rfl) ?_
      refine zz_get C (zz_lt (zz_e18 (zz_s1_1 (zz_s8_0 h0)) b_8) (by decide)) (zz_c0 (zz_e18 (zz_s1_1 (zz_s8_0 h0)) b_8)) rfl in_X8_show_X0 1 (by decide) (List.mem_of_getElem? (i := 5) rfl) rfl dX8_show_55 ?_
      refine zz_aload C dX8_show_58 (lv_at hl 1 rfl) ?_
      refine zz_get C (zz_lt (zz_e20 (zz_s8_9 h0) b_7) (by decide)) (zz_c3 (zz_e20 (zz_s8_9 h0) b_7)) rfl in_X8_show_X3 1 (by decide) (List.mem_of_getElem? (i := 6) rfl) rfl dX8_show_60 ?_
      refine zz_mmin C hl.1 (List.mem_of_getElem? (i := 7) rfl) (List.mem_of_getElem? (i := 8) rfl) (List.mem_of_getElem? (i := 9) rfl) (List.mem_of_getElem? (i := 10) rfl) (Nat.le_of_ble_eq_true rfl) (Nat.le_of_ble_eq_true rfl) dX8_show_63 ?_
      refine zz_istore C (fun x6_9 => [(6, .int x6_9), (5, .ref (E.1 + ((1 + 7) + 1 + 2 * zz_n x2))), (4, .ref (E.1 + (119 + 1 + 2 * zz_n x1))), (3, .int r_1), (0, .ref (E.1 + a0)), (1, .int x1), (2, .int x2)]) dX8_show_66 hl (by decide) (fun _ => rfl) (fun x6_9 ls hl => ?_)
      refine zz_iconst (v := 0) C dX8_show_68 (by decide) ?_
      refine zz_istored (lv' := [(7, .int (0 : Int32)), (6, .int x6_9), (5, .ref (E.1 + ((1 + 7) + 1 + 2 * zz_n x2))), (4, .ref (E.1 + (119 + 1 + 2 * zz_n x1))), (3, .int r_1), (0, .ref (E.1 + a0)), (1, .int x1), (2, .int x2)]) C dX8_show_69 hl (by decide) rfl (fun ls hl => ?_)
      exact wb_X8_show_71 C hr  zz_fuel (119 + 1 + 2 * zz_n x1) ((1 + 7) + 1 + 2 * zz_n x2) x6_9 (0 : Int32) (zz_e20 (zz_s8_9 h0) b_7) (zz_e18 (zz_s1_1 (zz_s8_0 h0)) b_8) M_5 ls (lv_sub hl [3, 2, 1, 0] rfl)
  · refine zz_aload_n C dX8_show_10 rfl (lv_at hl 1 rfl) ?_
    refine zz_iload_n C dX8_show_11 rfl (lv_at hl 0 rfl) ?_
    refine zz_callVi (As := [.int r_1]) (rest := []) C (m_X8_finding l E a0 r_1 h0 M_2) (cwV 1 C.1.2.2.2.2 gX8_show_X8_finding rfl rfl rfl hdV_X8_finding ⟨Nat.le_of_ble_eq_true rfl, Nat.le_of_ble_eq_true rfl⟩) (zz_lt h0 (by decide)) (zz_c8 h0) rfl rfl hl.1 rfl (Nat.le_of_ble_eq_true rfl) dX8_show_12 (fun r_12 M_13 => ?_)
    exact zz_iret C hr dX8_show_15
-- X8_read ('X8', 'read', '(II)I')
theorem in_X8_read_X1 : ∀ w ∈ u_ws RX1 TX1 3, w ∈ wsX8_read := fun _ h => List.mem_cons_of_mem _ (List.mem_append_left _ (List.mem_append_left _ (List.mem_append_left _ (List.mem_append_left _ (List.mem_append_right _ h)))))
theorem in_X8_read_X3 : ∀ w ∈ u_ws RX3 TX3 3, w ∈ wsX8_read := fun _ h => List.mem_cons_of_mem _ (List.mem_append_left _ (List.mem_append_left _ (List.mem_append_left _ (List.mem_append_left _ (List.mem_append_left _ (List.mem_append_right _ h))))))
theorem in_X8_read_X8 : ∀ w ∈ u_ws RX8 TX8 11, w ∈ wsX8_read := fun _ h => List.mem_cons_of_mem _ (List.mem_append_left _ (List.mem_append_left _ (List.mem_append_left _ (List.mem_append_left _ (List.mem_append_left _ (List.mem_append_left _ (List.mem_append_right _ h)))))))
theorem hdV_X2_rowThatMade : yX2_rowThatMade.cls = RX2 ∧ yX2_rowThatMade.cls ≠ "java/lang/invoke/MethodHandle" ∧ yX2_rowThatMade.cls ≠ "java/lang/invoke/VarHandle" ∧ (parseMethodDescriptor yX2_rowThatMade.desc).map (fun d => d.parameters.length) = some 3 := by decide +kernel
def f_X8_read (a0 : Nat) (x1 : Int32) (x2 : Int32) (M : zz_M) : Option (Int32 × zz_M) := zz_bd (f_X8_wrongSheet a0 x1 M) (fun r_1 M_2 => (if r_1 = 0 then zz_bd (f_X8_isKind x2 M_2) (fun r_4 M_5 => (if r_4 = 0 then zz_bd (f_X8_finding a0 (-1000000001 : Int32) M_5) (fun r_17 M_18 => some (r_17, M_18)) else (if zz_in x1 4 = true then (if (zz_i M_5 (119 + 1 + 2 * zz_n x1) 1) ≤ (6 : Int32) then (if zz_in x1 4 = true then zz_bd (f_X2_rowThatMade 66 (1 + 1) (119 + 1 + 2 * zz_n x1) x2 M_5) (fun r_10 M_11 => (if 0 ≤ r_10 then some (r_10, M_11) else zz_bd (f_X8_finding a0 (-1000000004 : Int32) M_11) (fun r_13 M_14 => some (r_13, M_14)))) else none) else zz_bd (f_X8_finding a0 (-1000000007 : Int32) M_5) (fun r_15 M_16 => some (r_15, M_16))) else none))) else zz_bd (f_X8_finding a0 r_1 M_2) (fun r_19 M_20 => some (r_19, M_20))))
set_option maxRecDepth 100000 in
set_option maxHeartbeats 4000000 in
theorem m_X8_read (l : Launch) (E : zz_E) (a0 : Nat) (x1 : Int32) (x2 : Int32) (h0 : zz_sh a0 = 8) (M : zz_M) : zz_Met (zz_pi E) l yX8_read wsX8_read 15 E [.ref (E.1 + a0), .int x1, .int x2] M (f_X8_read a0 x1 x2 M) := by
  refine zz_met (cc := cX8_read) (nL := 5) (ret := (some .int)) (by decide) rfl (Nat.le_of_ble_eq_true rfl) ?_
  intro p e s m below meth c C hr ls hl
  have C : zz_C E RX8 cX8_read 5 wsX8_read p s m [.ref (E.1 + a0), .int x1, .int x2].toArray meth c := C
  have hl : lv_has ls 5 [(0, .ref (E.1 + a0)), (1, .int x1), (2, .int x2)] := hl
  unfold f_X8_read
  refine zz_aload_n C dX8_read_0 rfl (lv_at hl 0 rfl) ?_
  refine zz_iload_n C dX8_read_1 rfl (lv_at hl 1 rfl) ?_
  refine zz_callVi (As := [.int x1]) (rest := []) C (m_X8_wrongSheet l E a0 x1 h0 M) (cwV 1 C.1.2.2.2.2 gX8_read_X8_wrongSheet rfl rfl rfl hdV_X8_wrongSheet ⟨Nat.le_of_ble_eq_true rfl, Nat.le_of_ble_eq_true rfl⟩) (zz_lt h0 (by decide)) (zz_c8 h0) rfl rfl hl.1 rfl (Nat.le_of_ble_eq_true rfl) dX8_read_2 (fun r_1 M_2 => ?_)
  refine zz_istored_n (lv' := [(3, .int r_1), (0, .ref (E.1 + a0)), (1, .int x1), (2, .int x2)]) C dX8_read_5 rfl hl (by decide) rfl (fun ls hl => ?_)
  refine zz_iload_n C dX8_read_6 rfl (lv_at hl 0 rfl) ?_
  refine zz_if_eq (tgt := 16) C dX8_read_7 (by decide) (fun c_3 => ?_) (fun c_3 => ?_)
  · refine zz_iload_n C dX8_read_16 rfl (lv_at hl 3 rfl) ?_
    refine zz_callSi (As := [.int x2]) (rest := []) C (m_X8_isKind l E x2  M_2) (va_cwS 1 C.1.2.2.2.2 gX8_read_X8_isKind rfl rfl rfl hdS_X8_isKind ⟨Nat.le_of_ble_eq_true rfl, Nat.le_of_ble_eq_true rfl⟩) rfl hl.1 rfl (Nat.le_of_ble_eq_true rfl) dX8_read_17 (fun r_4 M_5 => ?_)
    refine zz_if_ne (tgt := 30) C dX8_read_20 (by decide) (fun c_6 => ?_) (fun c_6 => ?_)
    · refine zz_aload_n C dX8_read_23 rfl (lv_at hl 1 rfl) ?_
      refine zz_ldc (v := -1000000001) C (List.mem_of_getElem? (i := 1) rfl) dX8_read_24 ?_
      refine zz_callVi (As := [.int (-1000000001 : Int32)]) (rest := []) C (m_X8_finding l E a0 (-1000000001 : Int32) h0 M_5) (cwV 1 C.1.2.2.2.2 gX8_read_X8_finding rfl rfl rfl hdV_X8_finding ⟨Nat.le_of_ble_eq_true rfl, Nat.le_of_ble_eq_true rfl⟩) (zz_lt h0 (by decide)) (zz_c8 h0) rfl rfl hl.1 rfl (Nat.le_of_ble_eq_true rfl) dX8_read_26 (fun r_17 M_18 => ?_)
      exact zz_iret C hr dX8_read_29
    · refine zz_aload_n C dX8_read_30 rfl (lv_at hl 1 rfl) ?_
      refine zz_get C (zz_lt h0 (by decide)) (zz_c8 h0) rfl in_X8_read_X8 9 (by decide) (List.mem_of_getElem? (i := 2) rfl) rfl dX8_read_31 ?_
      refine zz_iload_n C dX8_read_34 rfl (lv_at hl 2 rfl) ?_
      refine zz_aald (t := 3) (g := fun i => 119 + 1 + 2 * i) C (zz_lt (zz_s8_9 h0) (by decide)) (zz_c20 (zz_s8_9 h0)) rfl dX8_read_35 (fun b_7 => ?_)
      refine zz_get C (zz_lt (zz_e20 (zz_s8_9 h0) b_7) (by decide)) (zz_c3 (zz_e20 (zz_s8_9 h0) b_7)) rfl in_X8_read_X3 1 (by decide) (List.mem_of_getElem? (i := 3) rfl) rfl dX8_read_36 ?_
      refine zz_bipush (v := 6) C dX8_read_39 (by decide) ?_
      refine zz_icmp_le (tgt := 51) C dX8_read_41 (by decide) (fun c_8 => ?_) (fun c_8 => ?_)
      · refine zz_aload_n C dX8_read_51 rfl (lv_at hl 1 rfl) ?_
        refine zz_get C (zz_lt h0 (by decide)) (zz_c8 h0) rfl in_X8_read_X8 6 (by decide) (List.mem_of_getElem? (i := 5) rfl) rfl dX8_read_52 ?_
        refine zz_aload_n C dX8_read_55 rfl (lv_at hl 1 rfl) ?_
        refine zz_get C (zz_lt h0 (by decide)) (zz_c8 h0) rfl in_X8_read_X8 0 (by decide) (List.mem_of_getElem? (i := 6) rfl) rfl dX8_read_56 ?_
        refine zz_get C (zz_lt (zz_s8_0 h0) (by decide)) (zz_c1 (zz_s8_0 h0)) rfl in_X8_read_X1 0 (by decide) (List.mem_of_getElem? (i := 7) rfl) rfl dX8_read_59 ?_
        refine zz_aload_n C dX8_read_62 rfl (lv_at hl 1 rfl) ?_
        refine zz_get C (zz_lt h0 (by decide)) (zz_c8 h0) rfl in_X8_read_X8 9 (by decide) (List.mem_of_getElem? (i := 2) rfl) rfl dX8_read_63 ?_
        refine zz_iload_n C dX8_read_66 rfl (lv_at hl 2 rfl) ?_
        refine zz_aald (t := 3) (g := fun i => 119 + 1 + 2 * i) C (zz_lt (zz_s8_9 h0) (by decide)) (zz_c20 (zz_s8_9 h0)) rfl dX8_read_67 (fun b_9 => ?_)
        refine zz_iload_n C dX8_read_68 rfl (lv_at hl 3 rfl) ?_
        refine zz_callVi (As := [.ref (E.1 + (1 + 1)), .ref (E.1 + (119 + 1 + 2 * zz_n x1)), .int x2]) (rest := []) C (m_X2_rowThatMade l E 66 (1 + 1) (119 + 1 + 2 * zz_n x1) x2 (zz_s8_6 h0) (zz_s1_0 (zz_s8_0 h0)) (zz_e20 (zz_s8_9 h0) b_9) M_5) (cwV 3 C.1.2.2.2.2 gX8_read_X2_rowThatMade rfl rfl rfl hdV_X2_rowThatMade ⟨Nat.le_of_ble_eq_true rfl, Nat.le_of_ble_eq_true rfl⟩) (zz_lt (zz_s8_6 h0) (by decide)) (zz_c2 (zz_s8_6 h0)) rfl rfl hl.1 rfl (Nat.le_of_ble_eq_true rfl) dX8_read_69 (fun r_10 M_11 => ?_)
        refine zz_istored (lv' := [(4, .int r_10), (3, .int r_1), (0, .ref (E.1 + a0)), (1, .int x1), (2, .int x2)]) C dX8_read_72 hl (by decide) rfl (fun ls hl => ?_)
        refine zz_iload C dX8_read_74 (lv_at hl 0 rfl) ?_
        refine zz_if_ge (tgt := 86) C dX8_read_76 (by decide) (fun c_12 => ?_) (fun c_12 => ?_)
        · refine zz_iload C dX8_read_86 (lv_at hl 0 rfl) ?_
          exact zz_iret C hr dX8_read_88
        · refine zz_aload_n C dX8_read_79 rfl (lv_at hl 2 rfl) ?_
          refine zz_ldc (v := -1000000004) C (List.mem_of_getElem? (i := 8) rfl) dX8_read_80 ?_
          refine zz_callVi (As := [.int (-1000000004 : Int32)]) (rest := []) C (m_X8_finding l E a0 (-1000000004 : Int32) h0 M_11) (cwV 1 C.1.2.2.2.2 gX8_read_X8_finding rfl rfl rfl hdV_X8_finding ⟨Nat.le_of_ble_eq_true rfl, Nat.le_of_ble_eq_true rfl⟩) (zz_lt h0 (by decide)) (zz_c8 h0) rfl rfl hl.1 rfl (Nat.le_of_ble_eq_true rfl) dX8_read_82 (fun r_13 M_14 => ?_)
          exact zz_iret C hr dX8_read_85
      · refine zz_aload_n C dX8_read_44 rfl (lv_at hl 1 rfl) ?_
        refine zz_ldc (v := -1000000007) C (List.mem_of_getElem? (i := 4) rfl) dX8_read_45 ?_
        refine zz_callVi (As := [.int (-1000000007 : Int32)]) (rest := []) C (m_X8_finding l E a0 (-1000000007 : Int32) h0 M_5) (cwV 1 C.1.2.2.2.2 gX8_read_X8_finding rfl rfl rfl hdV_X8_finding ⟨Nat.le_of_ble_eq_true rfl, Nat.le_of_ble_eq_true rfl⟩) (zz_lt h0 (by decide)) (zz_c8 h0) rfl rfl hl.1 rfl (Nat.le_of_ble_eq_true rfl) dX8_read_47 (fun r_15 M_16 => ?_)
        exact zz_iret C hr dX8_read_50
  · refine zz_aload_n C dX8_read_10 rfl (lv_at hl 1 rfl) ?_
    refine zz_iload_n C dX8_read_11 rfl (lv_at hl 0 rfl) ?_
    refine zz_callVi (As := [.int r_1]) (rest := []) C (m_X8_finding l E a0 r_1 h0 M_2) (cwV 1 C.1.2.2.2.2 gX8_read_X8_finding rfl rfl rfl hdV_X8_finding ⟨Nat.le_of_ble_eq_true rfl, Nat.le_of_ble_eq_true rfl⟩) (zz_lt h0 (by decide)) (zz_c8 h0) rfl rfl hl.1 rfl (Nat.le_of_ble_eq_true rfl) dX8_read_12 (fun r_19 M_20 => ?_)
    exact zz_iret C hr dX8_read_15
-- X8_image ('X8', 'image', '()I')
theorem in_X8_image_X8 : ∀ w ∈ u_ws RX8 TX8 11, w ∈ wsX8_image := fun _ h => List.mem_cons_of_mem _ (List.mem_append_left _ (List.mem_append_left _ (List.mem_append_left _ (List.mem_append_left _ (List.mem_append_right _ h)))))
theorem hdV_X1_become : yX1_become.cls = RX1 ∧ yX1_become.cls ≠ "java/lang/invoke/MethodHandle" ∧ yX1_become.cls ≠ "java/lang/invoke/VarHandle" ∧ (parseMethodDescriptor yX1_become.desc).map (fun d => d.parameters.length) = some 1 := by decide +kernel
def f_X8_image (a0 : Nat) (M : zz_M) : Option (Int32 × zz_M) := zz_bd (f_X1_become 29 1 M) (fun _ M_1 => zz_w (zz_si M_1 a0 2 (1 : Int32)) (fun M_2 => some ((1 : Int32), M_2)))
set_option maxRecDepth 100000 in
set_option maxHeartbeats 4000000 in
theorem m_X8_image (l : Launch) (E : zz_E) (a0 : Nat) (h0 : zz_sh a0 = 8) (M : zz_M) : zz_Met (zz_pi E) l yX8_image wsX8_image 4 E [.ref (E.1 + a0)] M (f_X8_image a0 M) := by
  refine zz_met (cc := cX8_image) (nL := 1) (ret := (some .int)) (by decide) rfl (Nat.le_of_ble_eq_true rfl) ?_
  intro p e s m below meth c C hr ls hl
  have C : zz_C E RX8 cX8_image 1 wsX8_image p s m [.ref (E.1 + a0)].toArray meth c := C
  have hl : lv_has ls 1 [(0, .ref (E.1 + a0))] := hl
  unfold f_X8_image
  refine zz_aload_n C dX8_image_0 rfl (lv_at hl 0 rfl) ?_
  refine zz_get C (zz_lt h0 (by decide)) (zz_c8 h0) rfl in_X8_image_X8 1 (by decide) (List.mem_of_getElem? (i := 1) rfl) rfl dX8_image_1 ?_
  refine zz_aload_n C dX8_image_4 rfl (lv_at hl 0 rfl) ?_
  refine zz_get C (zz_lt h0 (by decide)) (zz_c8 h0) rfl in_X8_image_X8 0 (by decide) (List.mem_of_getElem? (i := 2) rfl) rfl dX8_image_5 ?_
  refine zz_callVv (As := [.ref (E.1 + 1)]) (rest := []) C (m_X1_become l E 29 1 (zz_s8_1 h0) (zz_s8_0 h0) M) (cwV 1 C.1.2.2.2.2 gX8_image_X1_become rfl rfl rfl hdV_X1_become ⟨Nat.le_of_ble_eq_true rfl, Nat.le_of_ble_eq_true rfl⟩) (zz_lt (zz_s8_1 h0) (by decide)) (zz_c1 (zz_s8_1 h0)) rfl rfl hl.1 rfl (Nat.le_of_ble_eq_true rfl) dX8_image_8 (fun _ M_1 => ?_)
  refine zz_aload_n C dX8_image_11 rfl (lv_at hl 0 rfl) ?_
  refine zz_iconst (v := 1) C dX8_image_12 (by decide) ?_
  refine zz_put (M1 := zz_si M_1 a0 2 (1 : Int32)) C (zz_lt h0 (by decide)) (zz_c8 h0) rfl in_X8_image_X8 tyX8 tyX8_ok nmX8 2 (by decide) (List.mem_of_getElem? (i := 3) rfl) rfl (zz_nb (v := (1 : Int32)) rfl) (zz_fb (v := (1 : Int32)) rfl) (Nat.le_of_ble_eq_true rfl) (zz_p8_2 h0) zz_cell_si dX8_image_13 (fun M_2 => ?_)
  refine zz_iconst (v := 1) C dX8_image_16 (by decide) ?_
  exact zz_iret C hr dX8_image_17
-- X8_undo ('X8', 'undo', '()I')
theorem in_X8_undo_X1 : ∀ w ∈ u_ws RX1 TX1 3, w ∈ wsX8_undo := fun _ h => List.mem_cons_of_mem _ (List.mem_append_left _ (List.mem_append_left _ (List.mem_append_left _ (List.mem_append_right _ h))))
theorem in_X8_undo_X8 : ∀ w ∈ u_ws RX8 TX8 11, w ∈ wsX8_undo := fun _ h => List.mem_cons_of_mem _ (List.mem_append_left _ (List.mem_append_left _ (List.mem_append_left _ (List.mem_append_left _ (List.mem_append_right _ h)))))
def f_X8_undo (a0 : Nat) (M : zz_M) : Option (Int32 × zz_M) := (if (zz_i M a0 2) = 0 then zz_bd (f_X8_finding a0 (-1000000004 : Int32) M) (fun r_3 M_4 => some (r_3, M_4)) else zz_bd (f_X1_become 1 29 M) (fun _ M_2 => some ((zz_i M_2 1 2), M_2)))
set_option maxRecDepth 100000 in
set_option maxHeartbeats 4000000 in
theorem m_X8_undo (l : Launch) (E : zz_E) (a0 : Nat) (h0 : zz_sh a0 = 8) (M : zz_M) : zz_Met (zz_pi E) l yX8_undo wsX8_undo 4 E [.ref (E.1 + a0)] M (f_X8_undo a0 M) := by
  refine zz_met (cc := cX8_undo) (nL := 1) (ret := (some .int)) (by decide) rfl (Nat.le_of_ble_eq_true rfl) ?_
  intro p e s m below meth c C hr ls hl
  have C : zz_C E RX8 cX8_undo 1 wsX8_undo p s m [.ref (E.1 + a0)].toArray meth c := C
  have hl : lv_has ls 1 [(0, .ref (E.1 + a0))] := hl
  unfold f_X8_undo
  refine zz_aload_n C dX8_undo_0 rfl (lv_at hl 0 rfl) ?_
  refine zz_get C (zz_lt h0 (by decide)) (zz_c8 h0) rfl in_X8_undo_X8 2 (by decide) (List.mem_of_getElem? (i := 1) rfl) rfl dX8_undo_1 ?_
  refine zz_if_ne (tgt := 14) C dX8_undo_4 (by decide) (fun c_1 => ?_) (fun c_1 => ?_)
  · refine zz_aload_n C dX8_undo_7 rfl (lv_at hl 0 rfl) ?_
    refine zz_ldc (v := -1000000004) C (List.mem_of_getElem? (i := 2) rfl) dX8_undo_8 ?_
    refine zz_callVi (As := [.int (-1000000004 : Int32)]) (rest := []) C (m_X8_finding l E a0 (-1000000004 : Int32) h0 M) (cwV 1 C.1.2.2.2.2 gX8_undo_X8_finding rfl rfl rfl hdV_X8_finding ⟨Nat.le_of_ble_eq_true rfl, Nat.le_of_ble_eq_true rfl⟩) (zz_lt h0 (by decide)) (zz_c8 h0) rfl rfl hl.1 rfl (Nat.le_of_ble_eq_true rfl) dX8_undo_10 (fun r_3 M_4 => ?_)
    exact zz_iret C hr dX8_undo_13
  · refine zz_aload_n C dX8_undo_14 rfl (lv_at hl 0 rfl) ?_
    refine zz_get C (zz_lt h0 (by decide)) (zz_c8 h0) rfl in_X8_undo_X8 0 (by decide) (List.mem_of_getElem? (i := 3) rfl) rfl dX8_undo_15 ?_
    refine zz_aload_n C dX8_undo_18 rfl (lv_at hl 0 rfl) ?_
    refine zz_get C (zz_lt h0 (by decide)) (zz_c8 h0) rfl in_X8_undo_X8 1 (by decide) (List.mem_of_getElem? (i := 4) rfl) rfl dX8_undo_19 ?_
    refine zz_callVv (As := [.ref (E.1 + 29)]) (rest := []) C (m_X1_become l E 1 29 (zz_s8_0 h0) (zz_s8_1 h0) M) (cwV 1 C.1.2.2.2.2 gX8_undo_X1_become rfl rfl rfl hdV_X1_become ⟨Nat.le_of_ble_eq_true rfl, Nat.le_of_ble_eq_true rfl⟩) (zz_lt (zz_s8_0 h0) (by decide)) (zz_c1 (zz_s8_0 h0)) rfl rfl hl.1 rfl (Nat.le_of_ble_eq_true rfl) dX8_undo_22 (fun _ M_2 => ?_)
    refine zz_aload_n C dX8_undo_25 rfl (lv_at hl 0 rfl) ?_
    refine zz_get C (zz_lt h0 (by decide)) (zz_c8 h0) rfl in_X8_undo_X8 0 (by decide) (List.mem_of_getElem? (i := 3) rfl) rfl dX8_undo_26 ?_
    refine zz_get C (zz_lt (zz_s8_0 h0) (by decide)) (zz_c1 (zz_s8_0 h0)) rfl in_X8_undo_X1 2 (by decide) (List.mem_of_getElem? (i := 5) rfl) rfl dX8_undo_29 ?_
    exact zz_iret C hr dX8_undo_32
-- X8_tear ('X8', 'tear', '()I')
theorem in_X8_tear_X8 : ∀ w ∈ u_ws RX8 TX8 11, w ∈ wsX8_tear := fun _ h => List.mem_cons_of_mem _ (List.mem_append_right _ h)
def b_X8_tear_12 (a0 : Nat) (st0 : Int32) (M : zz_M) : Option (Int32 × zz_M) := zz_w (zz_si M a0 2 (0 : Int32)) (fun M_2 => some (st0, M_2))
set_option maxRecDepth 100000 in
set_option maxHeartbeats 4000000 in
theorem wb_X8_tear_12 {p : Program} {l : Launch} {e : Env} {s : State} {m : MethodId} {args : Array Value} {below : List Frame} {meth : Method} {c : Code} {E : zz_E} (C : zz_C E RX8 cX8_tear 2 wsX8_tear p s m args meth c) (hr : meth.sig.returnType = (some .int)) : ∀ (a0 : Nat) (st0 : Int32) (ha0 : zz_sh a0 = 8) (M : zz_M) (ls : Array Slot), lv_has ls 2 [(0, .ref (E.1 + a0))] → zz_Z E p l e (zz_rm 1) s m args below meth c (zz_Q (zz_pi E) E below args s) (b_X8_tear_12 a0 st0 M) M (F0 m 12 ls [.int st0]) := by
  intro a0 st0 ha0 M ls hl
  unfold b_X8_tear_12
  refine zz_istored_n (lv' := [(1, .int st0), (0, .ref (E.1 + a0))]) C dX8_tear_12 rfl hl (by decide) rfl (fun ls hl => ?_)
  refine zz_aload_n C dX8_tear_13 rfl (lv_at hl 1 rfl) ?_
  refine zz_iconst (v := 0) C dX8_tear_14 (by decide) ?_
  refine zz_put (M1 := zz_si M a0 2 (0 : Int32)) C (zz_lt ha0 (by decide)) (zz_c8 ha0) rfl in_X8_tear_X8 tyX8 tyX8_ok nmX8 2 (by decide) (List.mem_of_getElem? (i := 1) rfl) rfl (zz_nb (v := (0 : Int32)) rfl) (zz_fb (v := (0 : Int32)) rfl) (Nat.le_of_ble_eq_true rfl) (zz_p8_2 ha0) zz_cell_si dX8_tear_15 (fun M_2 => ?_)
  refine zz_iload_n C dX8_tear_18 rfl (lv_at hl 0 rfl) ?_
  exact zz_iret C hr dX8_tear_19
def f_X8_tear (a0 : Nat) (M : zz_M) : Option (Int32 × zz_M) := (if (zz_i M a0 2) = 0 then b_X8_tear_12  a0 (0 : Int32) M else b_X8_tear_12  a0 (1 : Int32) M)
set_option maxRecDepth 100000 in
set_option maxHeartbeats 4000000 in
theorem m_X8_tear (l : Launch) (E : zz_E) (a0 : Nat) (h0 : zz_sh a0 = 8) (M : zz_M) : zz_Met (zz_pi E) l yX8_tear wsX8_tear 1 E [.ref (E.1 + a0)] M (f_X8_tear a0 M) := by
  refine zz_met (cc := cX8_tear) (nL := 2) (ret := (some .int)) (by decide) rfl (Nat.le_of_ble_eq_true rfl) ?_
  intro p e s m below meth c C hr ls hl
  have C : zz_C E RX8 cX8_tear 2 wsX8_tear p s m [.ref (E.1 + a0)].toArray meth c := C
  have hl : lv_has ls 2 [(0, .ref (E.1 + a0))] := hl
  unfold f_X8_tear
  refine zz_aload_n C dX8_tear_0 rfl (lv_at hl 0 rfl) ?_
  refine zz_get C (zz_lt h0 (by decide)) (zz_c8 h0) rfl in_X8_tear_X8 2 (by decide) (List.mem_of_getElem? (i := 1) rfl) rfl dX8_tear_1 ?_
  refine zz_if_eq (tgt := 11) C dX8_tear_4 (by decide) (fun c_1 => ?_) (fun c_1 => ?_)
  · refine zz_iconst (v := 0) C dX8_tear_11 (by decide) ?_
    exact wb_X8_tear_12 C hr  a0 (0 : Int32) h0 M ls (lv_sub hl [0] rfl)
  · refine zz_iconst (v := 1) C dX8_tear_7 (by decide) ?_
    refine zz_goto (tgt := 12) C dX8_tear_8 (by decide) ?_
    exact wb_X8_tear_12 C hr  a0 (1 : Int32) h0 M ls (lv_sub hl [0] rfl)
-- X8_count ('X8', 'count', '(I)I')
theorem in_X8_count_X1 : ∀ w ∈ u_ws RX1 TX1 3, w ∈ wsX8_count := fun _ h => List.mem_cons_of_mem _ (List.mem_append_left _ (List.mem_append_left _ (List.mem_append_left _ (List.mem_append_left _ (List.mem_append_right _ h)))))
theorem in_X8_count_X4 : ∀ w ∈ u_ws RX4 TX4 2, w ∈ wsX8_count := fun _ h => List.mem_cons_of_mem _ (List.mem_append_left _ (List.mem_append_left _ (List.mem_append_left _ (List.mem_append_right _ h))))
theorem in_X8_count_X8 : ∀ w ∈ u_ws RX8 TX8 11, w ∈ wsX8_count := fun _ h => List.mem_cons_of_mem _ (List.mem_append_left _ (List.mem_append_left _ (List.mem_append_left _ (List.mem_append_left _ (List.mem_append_left _ (List.mem_append_right _ h))))))
theorem hdV_X1_layersOfAll : yX1_layersOfAll.cls = RX1 ∧ yX1_layersOfAll.cls ≠ "java/lang/invoke/MethodHandle" ∧ yX1_layersOfAll.cls ≠ "java/lang/invoke/VarHandle" ∧ (parseMethodDescriptor yX1_layersOfAll.desc).map (fun d => d.parameters.length) = some 0 := by decide +kernel
theorem hdV_X7_lit : yX7_lit.cls = RX7 ∧ yX7_lit.cls ≠ "java/lang/invoke/MethodHandle" ∧ yX7_lit.cls ≠ "java/lang/invoke/VarHandle" ∧ (parseMethodDescriptor yX7_lit.desc).map (fun d => d.parameters.length) = some 0 := by decide +kernel
def f_X8_count (a0 : Nat) (x1 : Int32) (M : zz_M) : Option (Int32 × zz_M) := (if x1 = (0 : Int32) then some ((zz_i M 1 2), M) else (if x1 = (1 : Int32) then zz_bd (f_X1_layersOfAll 1 M) (fun r_3 M_4 => some (r_3, M_4)) else (if x1 = (2 : Int32) then some ((zz_i M 88 1), M) else (if x1 = (3 : Int32) then zz_bd (f_X7_lit (1 + 1) M) (fun r_7 M_8 => some (r_7, M_8)) else zz_bd (f_X8_finding a0 (-1000000001 : Int32) M) (fun r_9 M_10 => some (r_9, M_10))))))
set_option maxRecDepth 100000 in
set_option maxHeartbeats 4000000 in
theorem m_X8_count (l : Launch) (E : zz_E) (a0 : Nat) (x1 : Int32) (h0 : zz_sh a0 = 8) (M : zz_M) : zz_Met (zz_pi E) l yX8_count wsX8_count 3 E [.ref (E.1 + a0), .int x1] M (f_X8_count a0 x1 M) := by
  refine zz_met (cc := cX8_count) (nL := 2) (ret := (some .int)) (by decide) rfl (Nat.le_of_ble_eq_true rfl) ?_
  intro p e s m below meth c C hr ls hl
  have C : zz_C E RX8 cX8_count 2 wsX8_count p s m [.ref (E.1 + a0), .int x1].toArray meth c := C
  have hl : lv_has ls 2 [(0, .ref (E.1 + a0)), (1, .int x1)] := hl
  unfold f_X8_count
  refine zz_iload_n C dX8_count_0 rfl (lv_at hl 1 rfl) ?_
  refine zz_ite (fun c_1 => ?_) (fun c_1 => ?_)
  · refine zz_tabIn (tgt := 32) C dX8_count_1 (by rw [c_1]; decide) (by rw [c_1]; decide) (by rw [c_1]; rfl) (by decide) ?_
    refine zz_aload_n C dX8_count_32 rfl (lv_at hl 0 rfl) ?_
    refine zz_get C (zz_lt h0 (by decide)) (zz_c8 h0) rfl in_X8_count_X8 0 (by decide) (List.mem_of_getElem? (i := 1) rfl) rfl dX8_count_33 ?_
    refine zz_get C (zz_lt (zz_s8_0 h0) (by decide)) (zz_c1 (zz_s8_0 h0)) rfl in_X8_count_X1 2 (by decide) (List.mem_of_getElem? (i := 2) rfl) rfl dX8_count_36 ?_
    exact zz_iret C hr dX8_count_39
  · refine zz_ite (fun c_2 => ?_) (fun c_2 => ?_)
    · refine zz_tabIn (tgt := 40) C dX8_count_1 (by rw [c_2]; decide) (by rw [c_2]; decide) (by rw [c_2]; rfl) (by decide) ?_
      refine zz_aload_n C dX8_count_40 rfl (lv_at hl 0 rfl) ?_
      refine zz_get C (zz_lt h0 (by decide)) (zz_c8 h0) rfl in_X8_count_X8 0 (by decide) (List.mem_of_getElem? (i := 1) rfl) rfl dX8_count_41 ?_
      refine zz_callVi (As := []) (rest := []) C (m_X1_layersOfAll l E 1 (zz_s8_0 h0) M) (cwV 0 C.1.2.2.2.2 gX8_count_X1_layersOfAll rfl rfl rfl hdV_X1_layersOfAll ⟨Nat.le_of_ble_eq_true rfl, Nat.le_of_ble_eq_true rfl⟩) (zz_lt (zz_s8_0 h0) (by decide)) (zz_c1 (zz_s8_0 h0)) rfl rfl hl.1 rfl (Nat.le_of_ble_eq_true rfl) dX8_count_44 (fun r_3 M_4 => ?_)
      exact zz_iret C hr dX8_count_47
    · refine zz_ite (fun c_5 => ?_) (fun c_5 => ?_)
      · refine zz_tabIn (tgt := 48) C dX8_count_1 (by rw [c_5]; decide) (by rw [c_5]; decide) (by rw [c_5]; rfl) (by decide) ?_
        refine zz_aload_n C dX8_count_48 rfl (lv_at hl 0 rfl) ?_
        refine zz_get C (zz_lt h0 (by decide)) (zz_c8 h0) rfl in_X8_count_X8 7 (by decide) (List.mem_of_getElem? (i := 3) rfl) rfl dX8_count_49 ?_
        refine zz_get C (zz_lt (zz_s8_7 h0) (by decide)) (zz_c4 (zz_s8_7 h0)) rfl in_X8_count_X4 1 (by decide) (List.mem_of_getElem? (i := 4) rfl) rfl dX8_count_52 ?_
        exact zz_iret C hr dX8_count_55
      · refine zz_ite (fun c_6 => ?_) (fun c_6 => ?_)
        · refine zz_tabIn (tgt := 56) C dX8_count_1 (by rw [c_6]; decide) (by rw [c_6]; decide) (by rw [c_6]; rfl) (by decide) ?_
          refine zz_aload_n C dX8_count_56 rfl (lv_at hl 0 rfl) ?_
          refine zz_get C (zz_lt h0 (by decide)) (zz_c8 h0) rfl in_X8_count_X8 0 (by decide) (List.mem_of_getElem? (i := 1) rfl) rfl dX8_count_57 ?_
          refine zz_get C (zz_lt (zz_s8_0 h0) (by decide)) (zz_c1 (zz_s8_0 h0)) rfl in_X8_count_X1 0 (by decide) (List.mem_of_getElem? (i := 5) rfl) rfl dX8_count_60 ?_
          refine zz_callVi (As := []) (rest := []) C (m_X7_lit l E (1 + 1) (zz_s1_0 (zz_s8_0 h0)) M) (cwV 0 C.1.2.2.2.2 gX8_count_X7_lit rfl rfl rfl hdV_X7_lit ⟨Nat.le_of_ble_eq_true rfl, Nat.le_of_ble_eq_true rfl⟩) (zz_lt (zz_s1_0 (zz_s8_0 h0)) (by decide)) (zz_c7 (zz_s1_0 (zz_s8_0 h0))) rfl rfl hl.1 rfl (Nat.le_of_ble_eq_true rfl) dX8_count_63 (fun r_7 M_8 => ?_)
          exact zz_iret C hr dX8_count_66
        · refine zz_tabOut (tgt := 67) C dX8_count_1 (by have q0 : x1.toInt ≠ 0 := zz_ne c_1; have q1 : x1.toInt ≠ 1 := zz_ne c_2; have q2 : x1.toInt ≠ 2 := zz_ne c_5; have q3 : x1.toInt ≠ 3 := zz_ne c_6; omega) (by decide) ?_
          refine zz_aload_n C dX8_count_67 rfl (lv_at hl 0 rfl) ?_
          refine zz_ldc (v := -1000000001) C (List.mem_of_getElem? (i := 6) rfl) dX8_count_68 ?_
          refine zz_callVi (As := [.int (-1000000001 : Int32)]) (rest := []) C (m_X8_finding l E a0 (-1000000001 : Int32) h0 M) (cwV 1 C.1.2.2.2.2 gX8_count_X8_finding rfl rfl rfl hdV_X8_finding ⟨Nat.le_of_ble_eq_true rfl, Nat.le_of_ble_eq_true rfl⟩) (zz_lt h0 (by decide)) (zz_c8 h0) rfl rfl hl.1 rfl (Nat.le_of_ble_eq_true rfl) dX8_count_70 (fun r_9 M_10 => ?_)
          exact zz_iret C hr dX8_count_73
-- X8_status ('X8', 'status', '(I)I')
theorem in_X8_status_X8 : ∀ w ∈ u_ws RX8 TX8 11, w ∈ wsX8_status := fun _ h => List.mem_cons_of_mem _ (List.mem_append_right _ h)
def b_X8_status_32 : Nat → Nat → Int32 → Int32 → zz_M → Option (Int32 × zz_M)
  | 0 => fun _ _ _ _ => none
  | n + 1 => fun a0 x2 x3 M => (if (7 : Int32) ≤ x3 then some (x2, M) else (if zz_in x3 7 = true then zz_w (x2 + (zz_i M 128 (zz_n x3))) (fun x2_8 => zz_w (x3 + (1 : Int32)) (fun x3_9 => (b_X8_status_32 n) a0 x2_8 x3_9 M)) else none))
set_option maxRecDepth 100000 in
set_option maxHeartbeats 4000000 in
theorem wb_X8_status_32 {p : Program} {l : Launch} {e : Env} {s : State} {m : MethodId} {args : Array Value} {below : List Frame} {meth : Method} {c : Code} {E : zz_E} (C : zz_C E RX8 cX8_status 4 wsX8_status p s m args meth c) (hr : meth.sig.returnType = (some .int)) : ∀ (n : Nat) (a0 : Nat) (x2 : Int32) (x3 : Int32) (ha0 : zz_sh a0 = 8) (M : zz_M) (ls : Array Slot), lv_has ls 4 [(0, .ref (E.1 + a0)), (2, .int x2), (3, .int x3)] → zz_Z E p l e (zz_rm 3) s m args below meth c (zz_Q (zz_pi E) E below args s) (b_X8_status_32 n a0 x2 x3 M) M (F0 m 32 ls []) := by
  intro n
  induction n with
  | zero => intro a0 x2 x3 ha0 M ls hl; exact zz_none
  | succ n ih =>
    intro a0 x2 x3 ha0 M ls hl
    rw [b_X8_status_32]
    refine zz_iload_n C dX8_status_32 rfl (lv_at hl 2 rfl) ?_
    refine zz_bipush (v := 7) C dX8_status_33 (by decide) ?_
    refine zz_icmp_ge (tgt := 53) C dX8_status_35 (by decide) (fun c_7 => ?_) (fun c_7 => ?_)
    · refine zz_iload_n C dX8_status_53 rfl (lv_at hl 1 rfl) ?_
      exact zz_iret C hr dX8_status_54
    · refine zz_iload_n C dX8_status_38 rfl (lv_at hl 1 rfl) ?_
      refine zz_aload_n C dX8_status_39 rfl (lv_at hl 0 rfl) ?_
      refine zz_get C (zz_lt ha0 (by decide)) (zz_c8 ha0) rfl in_X8_status_X8 10 (by decide) (List.mem_of_getElem? (i := 2) rfl) rfl dX8_status_40 ?_
      refine zz_iload_n C dX8_status_43 rfl (lv_at hl 2 rfl) ?_
      refine zz_iald C (zz_lt (zz_s8_10 ha0) (by decide)) (zz_c12 (zz_s8_10 ha0)) dX8_status_44 ?_
      refine zz_iadd C dX8_status_45 ?_
      refine zz_istore_n C (fun x2_8 => [(2, .int x2_8), (0, .ref (E.1 + a0)), (3, .int x3)]) dX8_status_46 rfl hl (by decide) (fun _ => rfl) (fun x2_8 ls hl => ?_)
      refine zz_iinc (k9 := 2) (d := 1) C (fun x3_9 => [(3, .int x3_9), (2, .int x2_8), (0, .ref (E.1 + a0))]) dX8_status_47 hl rfl (by decide) (by decide) (fun _ => rfl) (fun x3_9 ls hl => ?_)
      refine zz_goto (tgt := 32) C dX8_status_50 (by decide) ?_
      exact ih a0 x2_8 x3_9 ha0 M ls (lv_sub hl [2, 1, 0] rfl)
def f_X8_status (a0 : Nat) (x1 : Int32) (M : zz_M) : Option (Int32 × zz_M) := zz_bd (f_X8_within x1 (-1 : Int32) (6 : Int32) M) (fun r_1 M_2 => (if r_1 = 0 then zz_bd (f_X8_finding a0 (-1000000001 : Int32) M_2) (fun r_5 M_6 => some (r_5, M_6)) else (if x1 < 0 then b_X8_status_32  zz_fuel a0 (0 : Int32) (0 : Int32) M_2 else (if zz_in x1 7 = true then some ((zz_i M_2 128 (zz_n x1)), M_2) else none))))
set_option maxRecDepth 100000 in
set_option maxHeartbeats 4000000 in
theorem m_X8_status (l : Launch) (E : zz_E) (a0 : Nat) (x1 : Int32) (h0 : zz_sh a0 = 8) (M : zz_M) : zz_Met (zz_pi E) l yX8_status wsX8_status 3 E [.ref (E.1 + a0), .int x1] M (f_X8_status a0 x1 M) := by
  refine zz_met (cc := cX8_status) (nL := 4) (ret := (some .int)) (by decide) rfl (Nat.le_of_ble_eq_true rfl) ?_
  intro p e s m below meth c C hr ls hl
  have C : zz_C E RX8 cX8_status 4 wsX8_status p s m [.ref (E.1 + a0), .int x1].toArray meth c := C
  have hl : lv_has ls 4 [(0, .ref (E.1 + a0)), (1, .int x1)] := hl
  unfold f_X8_status
  refine zz_iload_n C dX8_status_0 rfl (lv_at hl 1 rfl) ?_
  refine zz_iconst (v := -1) C dX8_status_1 (by decide) ?_
  refine zz_bipush (v := 6) C dX8_status_2 (by decide) ?_
  refine zz_callSi (As := [.int x1, .int (-1 : Int32), .int (6 : Int32)]) (rest := []) C (m_X8_within l E x1 (-1 : Int32) (6 : Int32)  M) (va_cwS 3 C.1.2.2.2.2 gX8_status_X8_within rfl rfl rfl hdS_X8_within ⟨Nat.le_of_ble_eq_true rfl, Nat.le_of_ble_eq_true rfl⟩) rfl hl.1 rfl (Nat.le_of_ble_eq_true rfl) dX8_status_4 (fun r_1 M_2 => ?_)
  refine zz_if_ne (tgt := 17) C dX8_status_7 (by decide) (fun c_3 => ?_) (fun c_3 => ?_)
  · refine zz_aload_n C dX8_status_10 rfl (lv_at hl 0 rfl) ?_
    refine zz_ldc (v := -1000000001) C (List.mem_of_getElem? (i := 1) rfl) dX8_status_11 ?_
    refine zz_callVi (As := [.int (-1000000001 : Int32)]) (rest := []) C (m_X8_finding l E a0 (-1000000001 : Int32) h0 M_2) (cwV 1 C.1.2.2.2.2 gX8_status_X8_finding rfl rfl rfl hdV_X8_finding ⟨Nat.le_of_ble_eq_true rfl, Nat.le_of_ble_eq_true rfl⟩) (zz_lt h0 (by decide)) (zz_c8 h0) rfl rfl hl.1 rfl (Nat.le_of_ble_eq_true rfl) dX8_status_13 (fun r_5 M_6 => ?_)
    exact zz_iret C hr dX8_status_16
  · refine zz_iload_n C dX8_status_17 rfl (lv_at hl 1 rfl) ?_
    refine zz_if_lt (tgt := 28) C dX8_status_18 (by decide) (fun c_4 => ?_) (fun c_4 => ?_)
    · refine zz_iconst (v := 0) C dX8_status_28 (by decide) ?_
      refine zz_istored_n (lv' := [(2, .int (0 : Int32)), (0, .ref (E.1 + a0)), (1, .int x1)]) C dX8_status_29 rfl hl (by decide) rfl (fun ls hl => ?_)
      refine zz_iconst (v := 0) C dX8_status_30 (by decide) ?_
      refine zz_istored_n (lv' := [(3, .int (0 : Int32)), (2, .int (0 : Int32)), (0, .ref (E.1 + a0)), (1, .int x1)]) C dX8_status_31 rfl hl (by decide) rfl (fun ls hl => ?_)
      exact wb_X8_status_32 C hr  zz_fuel a0 (0 : Int32) (0 : Int32) h0 M_2 ls (lv_sub hl [2, 1, 0] rfl)
    · refine zz_aload_n C dX8_status_21 rfl (lv_at hl 0 rfl) ?_
      refine zz_get C (zz_lt h0 (by decide)) (zz_c8 h0) rfl in_X8_status_X8 10 (by decide) (List.mem_of_getElem? (i := 2) rfl) rfl dX8_status_22 ?_
      refine zz_iload_n C dX8_status_25 rfl (lv_at hl 1 rfl) ?_
      refine zz_iald C (zz_lt (zz_s8_10 h0) (by decide)) (zz_c12 (zz_s8_10 h0)) dX8_status_26 ?_
      exact zz_iret C hr dX8_status_27
