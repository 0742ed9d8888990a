-- X8_finding ('X8', 'finding', '(I)I')
theorem in_X8_finding_X8 : ∀ w ∈ u_ws RX8 TX8 11, w ∈ wsX8_finding := fun _ h => List.mem_cons_of_mem _ (List.mem_append_right _ h)
def f_X8_finding (a0 : Nat) (x1 : Int32) (M : zz_M) : Option (Int32 × zz_M) := zz_w ((-1000000001 : Int32) - x1) (fun x2_1 => zz_bd (f_X8_within x2_1 (0 : Int32) (6 : Int32) M) (fun r_2 M_3 => (if r_2 = 0 then some (x1, M_3) else (if zz_in x2_1 7 = true then (if zz_in x2_1 7 = true then zz_w (zz_si M_3 128 (zz_n x2_1) ((zz_i M_3 128 (zz_n x2_1)) + (1 : Int32))) (fun M_5 => some (x1, M_5)) else none) else none))))
set_option maxRecDepth 100000 in
set_option maxHeartbeats 4000000 in
theorem m_X8_finding (l : Launch) (E : zz_E) (a0 : Nat) (x1 : Int32) (h0 : zz_sh a0 = 8) (M : zz_M) : zz_Met (zz_pi E) l yX8_finding wsX8_finding 2 E [.ref (E.1 + a0), .int x1] M (f_X8_finding a0 x1 M) := by
  refine zz_met (cc := cX8_finding) (nL := 3) (ret := (some .int)) (by decide) rfl (Nat.le_of_ble_eq_true rfl) ?_
  intro p e s m below meth c C hr ls hl
  have C : zz_C E RX8 cX8_finding 3 wsX8_finding p s m [.ref (E.1 + a0), .int x1].toArray meth c := C
  have hl : lv_has ls 3 [(0, .ref (E.1 + a0)), (1, .int x1)] := hl
  unfold f_X8_finding
  refine zz_ldc (v := -1000000001) C (List.mem_of_getElem? (i := 1) rfl) dX8_finding_0 ?_
  refine zz_iload_n C dX8_finding_2 rfl (lv_at hl 1 rfl) ?_
  refine zz_isub C dX8_finding_3 ?_
  refine zz_istore_n C (fun x2_1 => [(2, .int x2_1), (0, .ref (E.1 + a0)), (1, .int x1)]) dX8_finding_4 rfl hl (by decide) (fun _ => rfl) (fun x2_1 ls hl => ?_)
  refine zz_iload_n C dX8_finding_5 rfl (lv_at hl 0 rfl) ?_
  refine zz_iconst (v := 0) C dX8_finding_6 (by decide) ?_
  refine zz_bipush (v := 6) C dX8_finding_7 (by decide) ?_
  refine zz_callSi (As := [.int x2_1, .int (0 : Int32), .int (6 : Int32)]) (rest := []) C (m_X8_within l E x2_1 (0 : Int32) (6 : Int32)  M) (va_cwS 3 C.1.2.2.2.2 gX8_finding_X8_within rfl rfl rfl hdS_X8_within ⟨Nat.le_of_ble_eq_true rfl, Nat.le_of_ble_eq_true rfl⟩) rfl hl.1 rfl (Nat.le_of_ble_eq_true rfl) dX8_finding_9 (fun r_2 M_3 => ?_)
  refine zz_if_eq (tgt := 25) C dX8_finding_12 (by decide) (fun c_4 => ?_) (fun c_4 => ?_)
  · refine zz_iload_n C dX8_finding_25 rfl (lv_at hl 2 rfl) ?_
    exact zz_iret C hr dX8_finding_26
  · refine zz_aload_n C dX8_finding_15 rfl (lv_at hl 1 rfl) ?_
    refine zz_get C (zz_lt h0 (by decide)) (zz_c8 h0) rfl in_X8_finding_X8 10 (by decide) (List.mem_of_getElem? (i := 2) rfl) rfl dX8_finding_16 ?_
    refine zz_iload_n C dX8_finding_19 rfl (lv_at hl 0 rfl) ?_
    refine zz_dup2_11 C dX8_finding_20 rfl rfl ?_
    refine zz_iald C (zz_lt (zz_s8_10 h0) (by decide)) (zz_c12 (zz_s8_10 h0)) dX8_finding_21 ?_
    refine zz_iconst (v := 1) C dX8_finding_22 (by decide) ?_
    refine zz_iadd C dX8_finding_23 ?_
    refine zz_iast C (zz_lt (zz_s8_10 h0) (by decide)) (fun _ => zz_c12 (zz_s8_10 h0)) dX8_finding_24 (fun M_5 => ?_)
    refine zz_iload_n C dX8_finding_25 rfl (lv_at hl 2 rfl) ?_
    exact zz_iret C hr dX8_finding_26
-- X8_vatOf ('X8', 'vatOf', '(II)I')
theorem in_X8_vatOf_X1 : ∀ w ∈ u_ws RX1 TX1 3, w ∈ wsX8_vatOf := fun _ h => List.mem_cons_of_mem _ (List.mem_append_left _ (List.mem_append_left _ (List.mem_append_right _ h)))
theorem in_X8_vatOf_X7 : ∀ w ∈ u_ws RX7 TX7 4, w ∈ wsX8_vatOf := fun _ h => List.mem_cons_of_mem _ (List.mem_append_left _ (List.mem_append_right _ h))
theorem in_X8_vatOf_X8 : ∀ w ∈ u_ws RX8 TX8 11, w ∈ wsX8_vatOf := fun _ h => List.mem_cons_of_mem _ (List.mem_append_left _ (List.mem_append_left _ (List.mem_append_left _ (List.mem_append_right _ h))))
theorem hdS_X8_isVat : yX8_isVat.cls ≠ "java/lang/invoke/MethodHandle" ∧ yX8_isVat.cls ≠ "java/lang/invoke/VarHandle" ∧ (parseMethodDescriptor yX8_isVat.desc).map (fun d => d.parameters.length) = some 1 := by decide +kernel
theorem hdV_X6_part : yX6_part.cls = RX6 ∧ yX6_part.cls ≠ "java/lang/invoke/MethodHandle" ∧ yX6_part.cls ≠ "java/lang/invoke/VarHandle" ∧ (parseMethodDescriptor yX6_part.desc).map (fun d => d.parameters.length) = some 1 := by decide +kernel
theorem hdV_X8_finding : yX8_finding.cls = RX8 ∧ yX8_finding.cls ≠ "java/lang/invoke/MethodHandle" ∧ yX8_finding.cls ≠ "java/lang/invoke/VarHandle" ∧ (parseMethodDescriptor yX8_finding.desc).map (fun d => d.parameters.length) = some 1 := by decide +kernel
def f_X8_vatOf (a0 : Nat) (x1 : Int32) (x2 : Int32) (M : zz_M) : Option (Int32 × zz_M) := zz_bd (f_X8_isVat x1 M) (fun r_1 M_2 => (if r_1 = 0 then zz_bd (f_X8_finding a0 (-1000000001 : Int32) M_2) (fun r_4 M_5 => some (r_4, M_5)) else zz_bd (f_X8_within x2 (0 : Int32) (3 : Int32) M_2) (fun r_6 M_7 => (if r_6 = 0 then zz_bd (f_X8_finding a0 (-1000000001 : Int32) M_7) (fun r_12 M_13 => some (r_12, M_13)) else (if zz_in x1 4 = true then zz_bd (f_X6_part (((1 + 1) + 1) + 1 + zz_n x1) x2 M_7) (fun r_10 M_11 => some (r_10, M_11)) else none)))))
set_option maxRecDepth 100000 in
set_option maxHeartbeats 4000000 in
theorem m_X8_vatOf (l : Launch) (E : zz_E) (a0 : Nat) (x1 : Int32) (x2 : Int32) (h0 : zz_sh a0 = 8) (M : zz_M) : zz_Met (zz_pi E) l yX8_vatOf wsX8_vatOf 3 E [.ref (E.1 + a0), .int x1, .int x2] M (f_X8_vatOf a0 x1 x2 M) := by
  refine zz_met (cc := cX8_vatOf) (nL := 3) (ret := (some .int)) (by decide) rfl (Nat.le_of_ble_eq_true rfl) ?_
  intro p e s m below meth c C hr ls hl
  have C : zz_C E RX8 cX8_vatOf 3 wsX8_vatOf p s m [.ref (E.1 + a0), .int x1, .int x2].toArray meth c := C
  have hl : lv_has ls 3 [(0, .ref (E.1 + a0)), (1, .int x1), (2, .int x2)] := hl
  unfold f_X8_vatOf
  refine zz_iload_n C dX8_vatOf_0 rfl (lv_at hl 1 rfl) ?_
  refine zz_callSi (As := [.int x1]) (rest := []) C (m_X8_isVat l E x1  M) (va_cwS 1 C.1.2.2.2.2 gX8_vatOf_X8_isVat rfl rfl rfl hdS_X8_isVat ⟨Nat.le_of_ble_eq_true rfl, Nat.le_of_ble_eq_true rfl⟩) rfl hl.1 rfl (Nat.le_of_ble_eq_true rfl) dX8_vatOf_1 (fun r_1 M_2 => ?_)
  refine zz_if_eq (tgt := 16) C dX8_vatOf_4 (by decide) (fun c_3 => ?_) (fun c_3 => ?_)
  · refine zz_aload_n C dX8_vatOf_16 rfl (lv_at hl 0 rfl) ?_
    refine zz_ldc (v := -1000000001) C (List.mem_of_getElem? (i := 1) rfl) dX8_vatOf_17 ?_
    refine zz_callVi (As := [.int (-1000000001 : Int32)]) (rest := []) C (m_X8_finding l E a0 (-1000000001 : Int32) h0 M_2) (cwV 1 C.1.2.2.2.2 gX8_vatOf_X8_finding rfl rfl rfl hdV_X8_finding ⟨Nat.le_of_ble_eq_true rfl, Nat.le_of_ble_eq_true rfl⟩) (zz_lt h0 (by decide)) (zz_c8 h0) rfl rfl hl.1 rfl (Nat.le_of_ble_eq_true rfl) dX8_vatOf_19 (fun r_4 M_5 => ?_)
    exact zz_iret C hr dX8_vatOf_22
  · refine zz_iload_n C dX8_vatOf_7 rfl (lv_at hl 2 rfl) ?_
    refine zz_iconst (v := 0) C dX8_vatOf_8 (by decide) ?_
    refine zz_iconst (v := 3) C dX8_vatOf_9 (by decide) ?_
    refine zz_callSi (As := [.int x2, .int (0 : Int32), .int (3 : Int32)]) (rest := []) C (m_X8_within l E x2 (0 : Int32) (3 : Int32)  M_2) (va_cwS 3 C.1.2.2.2.2 gX8_vatOf_X8_within rfl rfl rfl hdS_X8_within ⟨Nat.le_of_ble_eq_true rfl, Nat.le_of_ble_eq_true rfl⟩) rfl hl.1 rfl (Nat.le_of_ble_eq_true rfl) dX8_vatOf_10 (fun r_6 M_7 => ?_)
    refine zz_if_ne (tgt := 23) C dX8_vatOf_13 (by decide) (fun c_8 => ?_) (fun c_8 => ?_)
    · refine zz_aload_n C dX8_vatOf_16 rfl (lv_at hl 0 rfl) ?_
      refine zz_ldc (v := -1000000001) C (List.mem_of_getElem? (i := 1) rfl) dX8_vatOf_17 ?_
      refine zz_callVi (As := [.int (-1000000001 : Int32)]) (rest := []) C (m_X8_finding l E a0 (-1000000001 : Int32) h0 M_7) (cwV 1 C.1.2.2.2.2 gX8_vatOf_X8_finding rfl rfl rfl hdV_X8_finding ⟨Nat.le_of_ble_eq_true rfl, Nat.le_of_ble_eq_true rfl⟩) (zz_lt h0 (by decide)) (zz_c8 h0) rfl rfl hl.1 rfl (Nat.le_of_ble_eq_true rfl) dX8_vatOf_19 (fun r_12 M_13 => ?_)
      exact zz_iret C hr dX8_vatOf_22
    · refine zz_aload_n C dX8_vatOf_23 rfl (lv_at hl 0 rfl) ?_
      refine zz_get C (zz_lt h0 (by decide)) (zz_c8 h0) rfl in_X8_vatOf_X8 0 (by decide) (List.mem_of_getElem? (i := 2) rfl) rfl dX8_vatOf_24 ?_
      refine zz_get C (zz_lt (zz_s8_0 h0) (by decide)) (zz_c1 (zz_s8_0 h0)) rfl in_X8_vatOf_X1 0 (by decide) (List.mem_of_getElem? (i := 3) rfl) rfl dX8_vatOf_27 ?_
      refine zz_get C (zz_lt (zz_s1_0 (zz_s8_0 h0)) (by decide)) (zz_c7 (zz_s1_0 (zz_s8_0 h0))) rfl in_X8_vatOf_X7 0 (by decide) (List.mem_of_getElem? (i := 4) rfl) rfl dX8_vatOf_30 ?_
      refine zz_iload_n C dX8_vatOf_33 rfl (lv_at hl 1 rfl) ?_
      refine zz_aald (t := 4) (g := fun i => ((1 + 1) + 1) + 1 + i) C (zz_lt (zz_s7_0 (zz_s1_0 (zz_s8_0 h0))) (by decide)) (zz_c21 (zz_s7_0 (zz_s1_0 (zz_s8_0 h0)))) rfl dX8_vatOf_34 (fun b_9 => ?_)
      refine zz_iload_n C dX8_vatOf_35 rfl (lv_at hl 2 rfl) ?_
      refine zz_callVi (As := [.int x2]) (rest := []) C (m_X6_part l E (((1 + 1) + 1) + 1 + zz_n x1) x2 (zz_e21 (zz_s7_0 (zz_s1_0 (zz_s8_0 h0))) b_9) M_7) (cwV 1 C.1.2.2.2.2 gX8_vatOf_X6_part rfl rfl rfl hdV_X6_part ⟨Nat.le_of_ble_eq_true rfl, Nat.le_of_ble_eq_true rfl⟩) (zz_lt (zz_e21 (zz_s7_0 (zz_s1_0 (zz_s8_0 h0))) b_9) (by decide)) (zz_c6 (zz_e21 (zz_s7_0 (zz_s1_0 (zz_s8_0 h0))) b_9)) rfl rfl hl.1 rfl (Nat.le_of_ble_eq_true rfl) dX8_vatOf_36 (fun r_10 M_11 => ?_)
      exact zz_iret C hr dX8_vatOf_39
-- X8_vat ('X8', 'vat', '(III)I')
theorem in_X8_vat_X1 : ∀ w ∈ u_ws RX1 TX1 3, w ∈ wsX8_vat := fun _ h => List.mem_cons_of_mem _ (List.mem_append_left _ (List.mem_append_left _ (List.mem_append_right _ h)))
theorem in_X8_vat_X7 : ∀ w ∈ u_ws RX7 TX7 4, w ∈ wsX8_vat := fun _ h => List.mem_cons_of_mem _ (List.mem_append_left _ (List.mem_append_right _ h))
theorem in_X8_vat_X8 : ∀ w ∈ u_ws RX8 TX8 11, w ∈ wsX8_vat := fun _ h => List.mem_cons_of_mem _ (List.mem_append_left _ (List.mem_append_left _ (List.mem_append_left _ (List.mem_append_right _ h))))
theorem hdV_X6_setPart : yX6_setPart.cls = RX6 ∧ yX6_setPart.cls ≠ "java/lang/invoke/MethodHandle" ∧ yX6_setPart.cls ≠ "java/lang/invoke/VarHandle" ∧ (parseMethodDescriptor yX6_setPart.desc).map (fun d => d.parameters.length) = some 2 := by decide +kernel
def f_X8_vat (a0 : Nat) (x1 : Int32) (x2 : Int32) (x3 : Int32) (M : zz_M) : Option (Int32 × zz_M) := zz_bd (f_X8_isVat x1 M) (fun r_1 M_2 => (if r_1 = 0 then zz_bd (f_X8_finding a0 (-1000000001 : Int32) M_2) (fun r_4 M_5 => some (r_4, M_5)) else zz_bd (f_X8_within x2 (0 : Int32) (3 : Int32) M_2) (fun r_6 M_7 => (if r_6 = 0 then zz_bd (f_X8_finding a0 (-1000000001 : Int32) M_7) (fun r_9 M_10 => some (r_9, M_10)) else (if zz_in x2 4 = true then zz_bd (f_X8_within x3 (0 : Int32) (zz_mov.getD (zz_n x2) 0) M_7) (fun r_11 M_12 => (if r_11 = 0 then zz_bd (f_X8_finding a0 (-1000000001 : Int32) M_12) (fun r_18 M_19 => some (r_18, M_19)) else (if zz_in x1 4 = true then zz_bd (f_X6_part (((1 + 1) + 1) + 1 + zz_n x1) x2 M_12) (fun r_15 M_16 => zz_bd (f_X6_setPart (((1 + 1) + 1) + 1 + zz_n x1) x2 x3 M_16) (fun _ M_17 => some (r_15, M_17))) else none))) else none)))))
set_option maxRecDepth 100000 in
set_option maxHeartbeats 4000000 in
theorem m_X8_vat (l : Launch) (E : zz_E) (a0 : Nat) (x1 : Int32) (x2 : Int32) (x3 : Int32) (h0 : zz_sh a0 = 8) (M : zz_M) : zz_Met (zz_pi E) l yX8_vat wsX8_vat 3 E [.ref (E.1 + a0), .int x1, .int x2, .int x3] M (f_X8_vat a0 x1 x2 x3 M) := by
  refine zz_met (cc := cX8_vat) (nL := 6) (ret := (some .int)) (by decide) rfl (Nat.le_of_ble_eq_true rfl) ?_
  intro p e s m below meth c C hr ls hl
  have C : zz_C E RX8 cX8_vat 6 wsX8_vat p s m [.ref (E.1 + a0), .int x1, .int x2, .int x3].toArray meth c := C
  have hl : lv_has ls 6 [(0, .ref (E.1 + a0)), (1, .int x1), (2, .int x2), (3, .int x3)] := hl
  unfold f_X8_vat
  refine zz_iload_n C dX8_vat_0 rfl (lv_at hl 1 rfl) ?_
  refine zz_callSi (As := [.int x1]) (rest := []) C (m_X8_isVat l E x1  M) (va_cwS 1 C.1.2.2.2.2 gX8_vat_X8_isVat rfl rfl rfl hdS_X8_isVat ⟨Nat.le_of_ble_eq_true rfl, Nat.le_of_ble_eq_true rfl⟩) rfl hl.1 rfl (Nat.le_of_ble_eq_true rfl) dX8_vat_1 (fun r_1 M_2 => ?_)
  refine zz_if_eq (tgt := 29) C dX8_vat_4 (by decide) (fun c_3 => ?_) (fun c_3 => ?_)
  · refine zz_aload_n C dX8_vat_29 rfl (lv_at hl 0 rfl) ?_
    refine zz_ldc (v := -1000000001) C (List.mem_of_getElem? (i := 2) rfl) dX8_vat_30 ?_
    refine zz_callVi (As := [.int (-1000000001 : Int32)]) (rest := []) C (m_X8_finding l E a0 (-1000000001 : Int32) h0 M_2) (cwV 1 C.1.2.2.2.2 gX8_vat_X8_finding rfl rfl rfl hdV_X8_finding ⟨Nat.le_of_ble_eq_true rfl, Nat.le_of_ble_eq_true rfl⟩) (zz_lt h0 (by decide)) (zz_c8 h0) rfl rfl hl.1 rfl (Nat.le_of_ble_eq_true rfl) dX8_vat_32 (fun r_4 M_5 => ?_)
    exact zz_iret C hr dX8_vat_35
  · refine zz_iload_n C dX8_vat_7 rfl (lv_at hl 2 rfl) ?_
    refine zz_iconst (v := 0) C dX8_vat_8 (by decide) ?_
    refine zz_iconst (v := 3) C dX8_vat_9 (by decide) ?_
    refine zz_callSi (As := [.int x2, .int (0 : Int32), .int (3 : Int32)]) (rest := []) C (m_X8_within l E x2 (0 : Int32) (3 : Int32)  M_2) (va_cwS 3 C.1.2.2.2.2 gX8_vat_X8_within rfl rfl rfl hdS_X8_within ⟨Nat.le_of_ble_eq_true rfl, Nat.le_of_ble_eq_true rfl⟩) rfl hl.1 rfl (Nat.le_of_ble_eq_true rfl) dX8_vat_10 (fun r_6 M_7 => ?_)
    refine zz_if_eq (tgt := 29) C dX8_vat_13 (by decide) (fun c_8 => ?_) (fun c_8 => ?_)
    · refine zz_aload_n C dX8_vat_29 rfl (lv_at hl 0 rfl) ?_
      refine zz_ldc (v := -1000000001) C (List.mem_of_getElem? (i := 2) rfl) dX8_vat_30 ?_
      refine zz_callVi (As := [.int (-1000000001 : Int32)]) (rest := []) C (m_X8_finding l E a0 (-1000000001 : Int32) h0 M_7) (cwV 1 C.1.2.2.2.2 gX8_vat_X8_finding rfl rfl rfl hdV_X8_finding ⟨Nat.le_of_ble_eq_true rfl, Nat.le_of_ble_eq_true rfl⟩) (zz_lt h0 (by decide)) (zz_c8 h0) rfl rfl hl.1 rfl (Nat.le_of_ble_eq_true rfl) dX8_vat_32 (fun r_9 M_10 => ?_)
      exact zz_iret C hr dX8_vat_35
    · refine zz_iload_n C dX8_vat_16 rfl (lv_at hl 3 rfl) ?_
      refine zz_iconst (v := 0) C dX8_vat_17 (by decide) ?_
      refine zz_gets0 C (List.mem_of_getElem? (i := 1) rfl) dX8_vat_18 ?_
      refine zz_iload_n C dX8_vat_21 rfl (lv_at hl 2 rfl) ?_
      refine zz_tld0 C dX8_vat_22 ?_
      refine zz_callSi (As := [.int x3, .int (0 : Int32), .int (zz_mov.getD (zz_n x2) 0)]) (rest := []) C (m_X8_within l E x3 (0 : Int32) (zz_mov.getD (zz_n x2) 0)  M_7) (va_cwS 3 C.1.2.2.2.2 gX8_vat_X8_within rfl rfl rfl hdS_X8_within ⟨Nat.le_of_ble_eq_true rfl, Nat.le_of_ble_eq_true rfl⟩) rfl hl.1 rfl (Nat.le_of_ble_eq_true rfl) dX8_vat_23 (fun r_11 M_12 => ?_)
      refine zz_if_ne (tgt := 36) C dX8_vat_26 (by decide) (fun c_13 => ?_) (fun c_13 => ?_)
      · refine zz_aload_n C dX8_vat_29 rfl (lv_at hl 0 rfl) ?_
        refine zz_ldc (v := -1000000001) C (List.mem_of_getElem? (i := 2) rfl) dX8_vat_30 ?_
        refine zz_callVi (As := [.int (-1000000001 : Int32)]) (rest := []) C (m_X8_finding l E a0 (-1000000001 : Int32) h0 M_12) (cwV 1 C.1.2.2.2.2 gX8_vat_X8_finding rfl rfl rfl hdV_X8_finding ⟨Nat.le_of_ble_eq_true rfl, Nat.le_of_ble_eq_true rfl⟩) (zz_lt h0 (by decide)) (zz_c8 h0) rfl rfl hl.1 rfl (Nat.le_of_ble_eq_true rfl) dX8_vat_32 (fun r_18 M_19 => ?_)
        exact zz_iret C hr dX8_vat_35
      · refine zz_aload_n C dX8_vat_36 rfl (lv_at hl 0 rfl) ?_
        refine zz_get C (zz_lt h0 (by decide)) (zz_c8 h0) rfl in_X8_vat_X8 0 (by decide) (List.mem_of_getElem? (i := 3) rfl) rfl dX8_vat_37 ?_
        refine zz_get C (zz_lt (zz_s8_0 h0) (by decide)) (zz_c1 (zz_s8_0 h0)) rfl in_X8_vat_X1 0 (by decide) (List.mem_of_getElem? (i := 4) rfl) rfl dX8_vat_40 ?_
        refine zz_get C (zz_lt (zz_s1_0 (zz_s8_0 h0)) (by decide)) (zz_c7 (zz_s1_0 (zz_s8_0 h0))) rfl in_X8_vat_X7 0 (by decide) (List.mem_of_getElem? (i := 5) rfl) rfl dX8_vat_43 ?_
        refine zz_iload_n C dX8_vat_46 rfl (lv_at hl 1 rfl) ?_
        refine zz_aald (t := 4) (g := fun i => ((1 + 1) + 1) + 1 + i) C (zz_lt (zz_s7_0 (zz_s1_0 (zz_s8_0 h0))) (by decide)) (zz_c21 (zz_s7_0 (zz_s1_0 (zz_s8_0 h0)))) rfl dX8_vat_47 (fun b_14 => ?_)
        refine zz_astore (lv' := [(4, .ref (E.1 + (((1 + 1) + 1) + 1 + zz_n x1))), (0, .ref (E.1 + a0)), (1, .int x1), (2, .int x2), (3, .int x3)]) C dX8_vat_48 hl (by decide) rfl (fun ls hl => ?_)
        refine zz_aload C dX8_vat_50 (lv_at hl 0 rfl) ?_
        refine zz_iload_n C dX8_vat_52 rfl (lv_at hl 3 rfl) ?_
        refine zz_callVi (As := [.int x2]) (rest := []) C (m_X6_part l E (((1 + 1) + 1) + 1 + zz_n x1) x2 (zz_e21 (zz_s7_0 (zz_s1_0 (zz_s8_0 h0))) b_14) M_12) (cwV 1 C.1.2.2.2.2 gX8_vat_X6_part rfl rfl rfl hdV_X6_part ⟨Nat.le_of_ble_eq_true rfl, Nat.le_of_ble_eq_true rfl⟩) (zz_lt (zz_e21 (zz_s7_0 (zz_s1_0 (zz_s8_0 h0))) b_14) (by decide)) (zz_c6 (zz_e21 (zz_s7_0 (zz_s1_0 (zz_s8_0 h0))) b_14)) rfl rfl hl.1 rfl (Nat.le_of_ble_eq_true rfl) dX8_vat_53 (fun r_15 M_16 => ?_)
        refine zz_istored (lv' := [(5, .int r_15), (4, .ref (E.1 + (((1 + 1) + 1) + 1 + zz_n x1))), (0, .ref (E.1 + a0)), (1, .int x1), (2, .int x2), (3, .int x3)]) C dX8_vat_56 hl (by decide) rfl (fun ls hl => ?_)
        refine zz_aload C dX8_vat_58 (lv_at hl 1 rfl) ?_
        refine zz_iload_n C dX8_vat_60 rfl (lv_at hl 4 rfl) ?_
        refine zz_iload_n C dX8_vat_61 rfl (lv_at hl 5 rfl) ?_
        refine zz_callVv (As := [.int x2, .int x3]) (rest := []) C (m_X6_setPart l E (((1 + 1) + 1) + 1 + zz_n x1) x2 x3 (zz_e21 (zz_s7_0 (zz_s1_0 (zz_s8_0 h0))) b_14) M_16) (cwV 2 C.1.2.2.2.2 gX8_vat_X6_setPart rfl rfl rfl hdV_X6_setPart ⟨Nat.le_of_ble_eq_true rfl, Nat.le_of_ble_eq_true rfl⟩) (zz_lt (zz_e21 (zz_s7_0 (zz_s1_0 (zz_s8_0 h0))) b_14) (by decide)) (zz_c6 (zz_e21 (zz_s7_0 (zz_s1_0 (zz_s8_0 h0))) b_14)) rfl rfl hl.1 rfl (Nat.le_of_ble_eq_true rfl) dX8_vat_62 (fun _ M_17 => ?_)
        refine zz_iload C dX8_vat_65 (lv_at hl 0 rfl) ?_
        exact zz_iret C hr dX8_vat_67
-- X8_let ('X8', 'let', '(II)I')
theorem in_X8_let_X1 : ∀ w ∈ u_ws RX1 TX1 3, w ∈ wsX8_let := fun _ h => List.mem_cons_of_mem _ (List.mem_append_left _ (List.mem_append_right _ h))
theorem in_X8_let_X7 : ∀ w ∈ u_ws RX7 TX7 4, w ∈ wsX8_let := fun _ h => List.mem_cons_of_mem _ (List.mem_append_right _ h)
theorem in_X8_let_X8 : ∀ w ∈ u_ws RX8 TX8 11, w ∈ wsX8_let := fun _ h => List.mem_cons_of_mem _ (List.mem_append_left _ (List.mem_append_left _ (List.mem_append_right _ h)))
def b_X8_let_23 (a0 : Nat) (x1 : Int32) (x2 : Int32) (st0 : Int32) (st1 : Int32) (st2 : Int32) (M : zz_M) : Option (Int32 × zz_M) := zz_bd (f_X8_within st2 st1 st0 M) (fun r_7 M_8 => (if r_7 = 0 then zz_bd (f_X8_finding a0 (-1000000001 : Int32) M_8) (fun r_15 M_16 => some (r_15, M_16)) else (if x1 = 0 then zz_w (zz_i M_8 (1 + 1) 1) (fun x3_13 => zz_w (zz_si M_8 (1 + 1) 1 x2) (fun M_14 => some (x3_13, M_14))) else zz_w (zz_i M_8 (1 + 1) 2) (fun x3_11 => zz_w (zz_si M_8 (1 + 1) 2 x2) (fun M_12 => some (x3_11, M_12))))))
set_option maxRecDepth 100000 in
set_option maxHeartbeats 4000000 in
theorem wb_X8_let_23 {p : Program} {l : Launch} {e : Env} {s : State} {m : MethodId} {args : Array Value} {below : List Frame} {meth : Method} {c : Code} {E : zz_E} (C : zz_C E RX8 cX8_let 4 wsX8_let p s m args meth c) (hr : meth.sig.returnType = (some .int)) : ∀ (a0 : Nat) (x1 : Int32) (x2 : Int32) (st0 : Int32) (st1 : Int32) (st2 : Int32) (ha0 : zz_sh a0 = 8) (M : zz_M) (ls : Array Slot), lv_has ls 4 [(0, .ref (E.1 + a0)), (1, .int x1), (2, .int x2)] → zz_Z E p l e (zz_rm 3) s m args below meth c (zz_Q (zz_pi E) E below args s) (b_X8_let_23 a0 x1 x2 st0 st1 st2 M) M (F0 m 23 ls [.int st0, .int st1, .int st2]) := by
  intro a0 x1 x2 st0 st1 st2 ha0 M ls hl
  unfold b_X8_let_23
  refine zz_callSi (As := [.int st2, .int st1, .int st0]) (rest := []) C (m_X8_within l E st2 st1 st0  M) (va_cwS 3 C.1.2.2.2.2 gX8_let_X8_within rfl rfl rfl hdS_X8_within ⟨Nat.le_of_ble_eq_true rfl, Nat.le_of_ble_eq_true rfl⟩) rfl hl.1 rfl (Nat.le_of_ble_eq_true rfl) dX8_let_23 (fun r_7 M_8 => ?_)
  refine zz_if_ne (tgt := 36) C dX8_let_26 (by decide) (fun c_9 => ?_) (fun c_9 => ?_)
  · refine zz_aload_n C dX8_let_29 rfl (lv_at hl 0 rfl) ?_
    refine zz_ldc (v := -1000000001) C (List.mem_of_getElem? (i := 1) rfl) dX8_let_30 ?_
    refine zz_callVi (As := [.int (-1000000001 : Int32)]) (rest := []) C (m_X8_finding l E a0 (-1000000001 : Int32) ha0 M_8) (cwV 1 C.1.2.2.2.2 gX8_let_X8_finding rfl rfl rfl hdV_X8_finding ⟨Nat.le_of_ble_eq_true rfl, Nat.le_of_ble_eq_true rfl⟩) (zz_lt ha0 (by decide)) (zz_c8 ha0) rfl rfl hl.1 rfl (Nat.le_of_ble_eq_true rfl) dX8_let_32 (fun r_15 M_16 => ?_)
    exact zz_iret C hr dX8_let_35
  · refine zz_iload_n C dX8_let_36 rfl (lv_at hl 1 rfl) ?_
    refine zz_if_ne (tgt := 65) C dX8_let_37 (by decide) (fun c_10 => ?_) (fun c_10 => ?_)
    · refine zz_aload_n C dX8_let_40 rfl (lv_at hl 0 rfl) ?_
      refine zz_get C (zz_lt ha0 (by decide)) (zz_c8 ha0) rfl in_X8_let_X8 0 (by decide) (List.mem_of_getElem? (i := 2) rfl) rfl dX8_let_41 ?_
      refine zz_get C (zz_lt (zz_s8_0 ha0) (by decide)) (zz_c1 (zz_s8_0 ha0)) rfl in_X8_let_X1 0 (by decide) (List.mem_of_getElem? (i := 3) rfl) rfl dX8_let_44 ?_
      refine zz_get C (zz_lt (zz_s1_0 (zz_s8_0 ha0)) (by decide)) (zz_c7 (zz_s1_0 (zz_s8_0 ha0))) rfl in_X8_let_X7 1 (by decide) (List.mem_of_getElem? (i := 4) rfl) rfl dX8_let_47 ?_
      refine zz_istore_n C (fun x3_13 => [(3, .int x3_13), (0, .ref (E.1 + a0)), (1, .int x1), (2, .int x2)]) dX8_let_50 rfl hl (by decide) (fun _ => rfl) (fun x3_13 ls hl => ?_)
      refine zz_aload_n C dX8_let_51 rfl (lv_at hl 1 rfl) ?_
      refine zz_get C (zz_lt ha0 (by decide)) (zz_c8 ha0) rfl in_X8_let_X8 0 (by decide) (List.mem_of_getElem? (i := 2) rfl) rfl dX8_let_52 ?_
      refine zz_get C (zz_lt (zz_s8_0 ha0) (by decide)) (zz_c1 (zz_s8_0 ha0)) rfl in_X8_let_X1 0 (by decide) (List.mem_of_getElem? (i := 3) rfl) rfl dX8_let_55 ?_
      refine zz_iload_n C dX8_let_58 rfl (lv_at hl 3 rfl) ?_
      refine zz_put (M1 := zz_si M_8 (1 + 1) 1 x2) C (zz_lt (zz_s1_0 (zz_s8_0 ha0)) (by decide)) (zz_c7 (zz_s1_0 (zz_s8_0 ha0))) rfl in_X8_let_X7 tyX7 tyX7_ok nmX7 1 (by decide) (List.mem_of_getElem? (i := 4) rfl) rfl rfl rfl (Nat.le_of_ble_eq_true rfl) (zz_p7_1 (zz_s1_0 (zz_s8_0 ha0))) zz_cell_si dX8_let_59 (fun M_14 => ?_)
      refine zz_goto (tgt := 87) C dX8_let_62 (by decide) ?_
      refine zz_iload_n C dX8_let_87 rfl (lv_at hl 0 rfl) ?_
      exact zz_iret C hr dX8_let_88
    · refine zz_aload_n C dX8_let_65 rfl (lv_at hl 0 rfl) ?_
      refine zz_get C (zz_lt ha0 (by decide)) (zz_c8 ha0) rfl in_X8_let_X8 0 (by decide) (List.mem_of_getElem? (i := 2) rfl) rfl dX8_let_66 ?_
      refine zz_get C (zz_lt (zz_s8_0 ha0) (by decide)) (zz_c1 (zz_s8_0 ha0)) rfl in_X8_let_X1 0 (by decide) (List.mem_of_getElem? (i := 3) rfl) rfl dX8_let_69 ?_
      refine zz_get C (zz_lt (zz_s1_0 (zz_s8_0 ha0)) (by decide)) (zz_c7 (zz_s1_0 (zz_s8_0 ha0))) rfl in_X8_let_X7 2 (by decide) (List.mem_of_getElem? (i := 5) rfl) rfl dX8_let_72 ?_
      refine zz_istore_n C (fun x3_11 => [(3, .int x3_11), (0, .ref (E.1 + a0)), (1, .int x1), (2, .int x2)]) dX8_let_75 rfl hl (by decide) (fun _ => rfl) (fun x3_11 ls hl => ?_)
      refine zz_aload_n C dX8_let_76 rfl (lv_at hl 1 rfl) ?_
      refine zz_get C (zz_lt ha0 (by decide)) (zz_c8 ha0) rfl in_X8_let_X8 0 (by decide) (List.mem_of_getElem? (i := 2) rfl) rfl dX8_let_77 ?_
      refine zz_get C (zz_lt (zz_s8_0 ha0) (by decide)) (zz_c1 (zz_s8_0 ha0)) rfl in_X8_let_X1 0 (by decide) (List.mem_of_getElem? (i := 3) rfl) rfl dX8_let_80 ?_
      refine zz_iload_n C dX8_let_83 rfl (lv_at hl 3 rfl) ?_
      refine zz_put (M1 := zz_si M_8 (1 + 1) 2 x2) C (zz_lt (zz_s1_0 (zz_s8_0 ha0)) (by decide)) (zz_c7 (zz_s1_0 (zz_s8_0 ha0))) rfl in_X8_let_X7 tyX7 tyX7_ok nmX7 2 (by decide) (List.mem_of_getElem? (i := 5) rfl) rfl rfl rfl (Nat.le_of_ble_eq_true rfl) (zz_p7_2 (zz_s1_0 (zz_s8_0 ha0))) zz_cell_si dX8_let_84 (fun M_12 => ?_)
      refine zz_iload_n C dX8_let_87 rfl (lv_at hl 0 rfl) ?_
      exact zz_iret C hr dX8_let_88
def f_X8_let (a0 : Nat) (x1 : Int32) (x2 : Int32) (M : zz_M) : Option (Int32 × zz_M) := zz_bd (f_X8_within x1 (0 : Int32) (1 : Int32) M) (fun r_1 M_2 => (if r_1 = 0 then zz_bd (f_X8_finding a0 (-1000000001 : Int32) M_2) (fun r_4 M_5 => some (r_4, M_5)) else (if x1 = 0 then b_X8_let_23  a0 x1 x2 (9999 : Int32) (0 : Int32) x2 M_2 else b_X8_let_23  a0 x1 x2 (9 : Int32) (0 : Int32) x2 M_2)))
set_option maxRecDepth 100000 in
set_option maxHeartbeats 4000000 in
theorem m_X8_let (l : Launch) (E : zz_E) (a0 : Nat) (x1 : Int32) (x2 : Int32) (h0 : zz_sh a0 = 8) (M : zz_M) : zz_Met (zz_pi E) l yX8_let wsX8_let 3 E [.ref (E.1 + a0), .int x1, .int x2] M (f_X8_let a0 x1 x2 M) := by
  refine zz_met (cc := cX8_let) (nL := 4) (ret := (some .int)) (by decide) rfl (Nat.le_of_ble_eq_true rfl) ?_
  intro p e s m below meth c C hr ls hl
  have C : zz_C E RX8 cX8_let 4 wsX8_let p s m [.ref (E.1 + a0), .int x1, .int x2].toArray meth c := C
  have hl : lv_has ls 4 [(0, .ref (E.1 + a0)), (1, .int x1), (2, .int x2)] := hl
  unfold f_X8_let
  refine zz_iload_n C dX8_let_0 rfl (lv_at hl 1 rfl) ?_
  refine zz_iconst (v := 0) C dX8_let_1 (by decide) ?_
  refine zz_iconst (v := 1) C dX8_let_2 (by decide) ?_
  refine zz_callSi (As := [.int x1, .int (0 : Int32), .int (1 : Int32)]) (rest := []) C (m_X8_within l E x1 (0 : Int32) (1 : Int32)  M) (va_cwS 3 C.1.2.2.2.2 gX8_let_X8_within rfl rfl rfl hdS_X8_within ⟨Nat.le_of_ble_eq_true rfl, Nat.le_of_ble_eq_true rfl⟩) rfl hl.1 rfl (Nat.le_of_ble_eq_true rfl) dX8_let_3 (fun r_1 M_2 => ?_)
  refine zz_if_eq (tgt := 29) C dX8_let_6 (by decide) (fun c_3 => ?_) (fun c_3 => ?_)
  · refine zz_aload_n C dX8_let_29 rfl (lv_at hl 0 rfl) ?_
    refine zz_ldc (v := -1000000001) C (List.mem_of_getElem? (i := 1) rfl) dX8_let_30 ?_
    refine zz_callVi (As := [.int (-1000000001 : Int32)]) (rest := []) C (m_X8_finding l E a0 (-1000000001 : Int32) h0 M_2) (cwV 1 C.1.2.2.2.2 gX8_let_X8_finding rfl rfl rfl hdV_X8_finding ⟨Nat.le_of_ble_eq_true rfl, Nat.le_of_ble_eq_true rfl⟩) (zz_lt h0 (by decide)) (zz_c8 h0) rfl rfl hl.1 rfl (Nat.le_of_ble_eq_true rfl) dX8_let_32 (fun r_4 M_5 => ?_)
    exact zz_iret C hr dX8_let_35
  · refine zz_iload_n C dX8_let_9 rfl (lv_at hl 2 rfl) ?_
    refine zz_iconst (v := 0) C dX8_let_10 (by decide) ?_
    refine zz_iload_n C dX8_let_11 rfl (lv_at hl 1 rfl) ?_
    refine zz_if_ne (tgt := 21) C dX8_let_12 (by decide) (fun c_6 => ?_) (fun c_6 => ?_)
    · refine zz_sipush (v := 9999) C dX8_let_15 (by decide) ?_
      refine zz_goto (tgt := 23) C dX8_let_18 (by decide) ?_
      exact wb_X8_let_23 C hr  a0 x1 x2 (9999 : Int32) (0 : Int32) x2 h0 M_2 ls (lv_sub hl [0, 1, 2] rfl)
    · refine zz_bipush (v := 9) C dX8_let_21 (by decide) ?_
      exact wb_X8_let_23 C hr  a0 x1 x2 (9 : Int32) (0 : Int32) x2 h0 M_2 ls (lv_sub hl [0, 1, 2] rfl)
-- X8_candle ('X8', 'candle', '(I)I')
theorem in_X8_candle_X1 : ∀ w ∈ u_ws RX1 TX1 3, w ∈ wsX8_candle := fun _ h => List.mem_cons_of_mem _ (List.mem_append_left _ (List.mem_append_right _ h))
theorem in_X8_candle_X8 : ∀ w ∈ u_ws RX8 TX8 11, w ∈ wsX8_candle := fun _ h => List.mem_cons_of_mem _ (List.mem_append_left _ (List.mem_append_left _ (List.mem_append_right _ h)))
theorem hdV_X1_addCandle : yX1_addCandle.cls = RX1 ∧ yX1_addCandle.cls ≠ "java/lang/invoke/MethodHandle" ∧ yX1_addCandle.cls ≠ "java/lang/invoke/VarHandle" ∧ (parseMethodDescriptor yX1_addCandle.desc).map (fun d => d.parameters.length) = some 1 := by decide +kernel
def f_X8_candle (a0 : Nat) (x1 : Int32) (M : zz_M) : Option (Int32 × zz_M) := zz_bd (f_X8_isKind x1 M) (fun r_1 M_2 => (if r_1 = 0 then zz_bd (f_X8_finding a0 (-1000000001 : Int32) M_2) (fun r_9 M_10 => some (r_9, M_10)) else zz_bd (f_X1_addCandle 1 x1 M_2) (fun r_4 M_5 => (if r_4 = 0 then zz_bd (f_X8_finding a0 (-1000000002 : Int32) M_5) (fun r_7 M_8 => some (r_7, M_8)) else some (((zz_i M_5 1 2) - (1 : Int32)), M_5)))))
set_option maxRecDepth 100000 in
set_option maxHeartbeats 4000000 in
theorem m_X8_candle (l : Launch) (E : zz_E) (a0 : Nat) (x1 : Int32) (h0 : zz_sh a0 = 8) (M : zz_M) : zz_Met (zz_pi E) l yX8_candle wsX8_candle 3 E [.ref (E.1 + a0), .int x1] M (f_X8_candle a0 x1 M) := by
  refine zz_met (cc := cX8_candle) (nL := 2) (ret := (some .int)) (by decide) rfl (Nat.le_of_ble_eq_true rfl) ?_
  intro p e s m below meth c C hr ls hl
  have C : zz_C E RX8 cX8_candle 2 wsX8_candle p s m [.ref (E.1 + a0), .int x1].toArray meth c := C
  have hl : lv_has ls 2 [(0, .ref (E.1 + a0)), (1, .int x1)] := hl
  unfold f_X8_candle
  refine zz_iload_n C dX8_candle_0 rfl (lv_at hl 1 rfl) ?_
  refine zz_callSi (As := [.int x1]) (rest := []) C (m_X8_isKind l E x1  M) (va_cwS 1 C.1.2.2.2.2 gX8_candle_X8_isKind rfl rfl rfl hdS_X8_isKind ⟨Nat.le_of_ble_eq_true rfl, Nat.le_of_ble_eq_true rfl⟩) rfl hl.1 rfl (Nat.le_of_ble_eq_true rfl) dX8_candle_1 (fun r_1 M_2 => ?_)
  refine zz_if_ne (tgt := 14) C dX8_candle_4 (by decide) (fun c_3 => ?_) (fun c_3 => ?_)
  · refine zz_aload_n C dX8_candle_7 rfl (lv_at hl 0 rfl) ?_
    refine zz_ldc (v := -1000000001) C (List.mem_of_getElem? (i := 1) rfl) dX8_candle_8 ?_
    refine zz_callVi (As := [.int (-1000000001 : Int32)]) (rest := []) C (m_X8_finding l E a0 (-1000000001 : Int32) h0 M_2) (cwV 1 C.1.2.2.2.2 gX8_candle_X8_finding rfl rfl rfl hdV_X8_finding ⟨Nat.le_of_ble_eq_true rfl, Nat.le_of_ble_eq_true rfl⟩) (zz_lt h0 (by decide)) (zz_c8 h0) rfl rfl hl.1 rfl (Nat.le_of_ble_eq_true rfl) dX8_candle_10 (fun r_9 M_10 => ?_)
    exact zz_iret C hr dX8_candle_13
  · refine zz_aload_n C dX8_candle_14 rfl (lv_at hl 0 rfl) ?_
    refine zz_get C (zz_lt h0 (by decide)) (zz_c8 h0) rfl in_X8_candle_X8 0 (by decide) (List.mem_of_getElem? (i := 2) rfl) rfl dX8_candle_15 ?_
    refine zz_iload_n C dX8_candle_18 rfl (lv_at hl 1 rfl) ?_
    refine zz_callVi (As := [.int x1]) (rest := []) C (m_X1_addCandle l E 1 x1 (zz_s8_0 h0) M_2) (cwV 1 C.1.2.2.2.2 gX8_candle_X1_addCandle rfl rfl rfl hdV_X1_addCandle ⟨Nat.le_of_ble_eq_true rfl, Nat.le_of_ble_eq_true rfl⟩) (zz_lt (zz_s8_0 h0) (by decide)) (zz_c1 (zz_s8_0 h0)) rfl rfl hl.1 rfl (Nat.le_of_ble_eq_true rfl) dX8_candle_19 (fun r_4 M_5 => ?_)
    refine zz_if_ne (tgt := 32) C dX8_candle_22 (by decide) (fun c_6 => ?_) (fun c_6 => ?_)
    · refine zz_aload_n C dX8_candle_25 rfl (lv_at hl 0 rfl) ?_
      refine zz_ldc (v := -1000000002) C (List.mem_of_getElem? (i := 3) rfl) dX8_candle_26 ?_
      refine zz_callVi (As := [.int (-1000000002 : Int32)]) (rest := []) C (m_X8_finding l E a0 (-1000000002 : Int32) h0 M_5) (cwV 1 C.1.2.2.2.2 gX8_candle_X8_finding rfl rfl rfl hdV_X8_finding ⟨Nat.le_of_ble_eq_true rfl, Nat.le_of_ble_eq_true rfl⟩) (zz_lt h0 (by decide)) (zz_c8 h0) rfl rfl hl.1 rfl (Nat.le_of_ble_eq_true rfl) dX8_candle_28 (fun r_7 M_8 => ?_)
      exact zz_iret C hr dX8_candle_31
    · refine zz_aload_n C dX8_candle_32 rfl (lv_at hl 0 rfl) ?_
      refine zz_get C (zz_lt h0 (by decide)) (zz_c8 h0) rfl in_X8_candle_X8 0 (by decide) (List.mem_of_getElem? (i := 2) rfl) rfl dX8_candle_33 ?_
      refine zz_get C (zz_lt (zz_s8_0 h0) (by decide)) (zz_c1 (zz_s8_0 h0)) rfl in_X8_candle_X1 2 (by decide) (List.mem_of_getElem? (i := 4) rfl) rfl dX8_candle_36 ?_
      refine zz_iconst (v := 1) C dX8_candle_39 (by decide) ?_
      refine zz_isub C dX8_candle_40 ?_
      exact zz_iret C hr dX8_candle_41
-- X8_of ('X8', 'of', '(II)I')
theorem in_X8_of_X0 : ∀ w ∈ u_ws RX0 TX0 5, w ∈ wsX8_of := fun _ h => List.mem_cons_of_mem _ (List.mem_append_right _ h)
theorem in_X8_of_X1 : ∀ w ∈ u_ws RX1 TX1 3, w ∈ wsX8_of := fun _ h => List.mem_cons_of_mem _ (List.mem_append_left _ (List.mem_append_right _ h))
theorem in_X8_of_X8 : ∀ w ∈ u_ws RX8 TX8 11, w ∈ wsX8_of := fun _ h => List.mem_cons_of_mem _ (List.mem_append_left _ (List.mem_append_left _ (List.mem_append_right _ h)))
theorem hdV_X1_has : yX1_has.cls = RX1 ∧ yX1_has.cls ≠ "java/lang/invoke/MethodHandle" ∧ yX1_has.cls ≠ "java/lang/invoke/VarHandle" ∧ (parseMethodDescriptor yX1_has.desc).map (fun d => d.parameters.length) = some 1 := by decide +kernel
def f_X8_of (a0 : Nat) (x1 : Int32) (x2 : Int32) (M : zz_M) : Option (Int32 × zz_M) := zz_bd (f_X1_has 1 x1 M) (fun r_1 M_2 => (if r_1 = 0 then zz_bd (f_X8_finding a0 (-1000000001 : Int32) M_2) (fun r_4 M_5 => some (r_4, M_5)) else zz_bd (f_X8_within x2 (0 : Int32) (4 : Int32) M_2) (fun r_6 M_7 => (if r_6 = 0 then zz_bd (f_X8_finding a0 (-1000000001 : Int32) M_7) (fun r_18 M_19 => some (r_18, M_19)) else (if zz_in x1 10 = true then (if x2 = (0 : Int32) then some ((zz_i M_7 ((1 + 7) + 1 + 2 * zz_n x1) 0), M_7) else (if x2 = (1 : Int32) then some ((zz_i M_7 ((1 + 7) + 1 + 2 * zz_n x1) 1), M_7) else (if x2 = (2 : Int32) then zz_bd (f_X0_grams ((1 + 7) + 1 + 2 * zz_n x1) M_7) (fun r_13 M_14 => some (r_13, M_14)) else (if x2 = (3 : Int32) then some ((zz_i M_7 ((1 + 7) + 1 + 2 * zz_n x1) 3), M_7) else zz_bd (f_X0_minutes ((1 + 7) + 1 + 2 * zz_n x1) M_7) (fun r_16 M_17 => some (r_16, M_17)))))) else none)))))
set_option maxRecDepth 100000 in
set_option maxHeartbeats 4000000 in
theorem m_X8_of (l : Launch) (E : zz_E) (a0 : Nat) (x1 : Int32) (x2 : Int32) (h0 : zz_sh a0 = 8) (M : zz_M) : zz_Met (zz_pi E) l yX8_of wsX8_of 3 E [.ref (E.1 + a0), .int x1, .int x2] M (f_X8_of a0 x1 x2 M) := by
  refine zz_met (cc := cX8_of) (nL := 4) (ret := (some .int)) (by decide) rfl (Nat.le_of_ble_eq_true rfl) ?_
  intro p e s m below meth c C hr ls hl
  have C : zz_C E RX8 cX8_of 4 wsX8_of p s m [.ref (E.1 + a0), .int x1, .int x2].toArray meth c := C
  have hl : lv_has ls 4 [(0, .ref (E.1 + a0)), (1, .int x1), (2, .int x2)] := hl
  unfold f_X8_of
  refine zz_aload_n C dX8_of_0 rfl (lv_at hl 0 rfl) ?_
  refine zz_get C (zz_lt h0 (by decide)) (zz_c8 h0) rfl in_X8_of_X8 0 (by decide) (List.mem_of_getElem? (i := 1) rfl) rfl dX8_of_1 ?_
  refine zz_iload_n C dX8_of_4 rfl (lv_at hl 1 rfl) ?_
  refine zz_callVi (As := [.int x1]) (rest := []) C (m_X1_has l E 1 x1 (zz_s8_0 h0) M) (cwV 1 C.1.2.2.2.2 gX8_of_X1_has rfl rfl rfl hdV_X1_has ⟨Nat.le_of_ble_eq_true rfl, Nat.le_of_ble_eq_true rfl⟩) (zz_lt (zz_s8_0 h0) (by decide)) (zz_c1 (zz_s8_0 h0)) rfl rfl hl.1 rfl (Nat.le_of_ble_eq_true rfl) dX8_of_5 (fun r_1 M_2 => ?_)
  refine zz_if_eq (tgt := 20) C dX8_of_8 (by decide) (fun c_3 => ?_) (fun c_3 => ?_)
  · refine zz_aload_n C dX8_of_20 rfl (lv_at hl 0 rfl) ?_
    refine zz_ldc (v := -1000000001) C (List.mem_of_getElem? (i := 2) rfl) dX8_of_21 ?_
    refine zz_callVi (As := [.int (-1000000001 : Int32)]) (rest := []) C (m_X8_finding l E a0 (-1000000001 : Int32) h0 M_2) (cwV 1 C.1.2.2.2.2 gX8_of_X8_finding rfl rfl rfl hdV_X8_finding ⟨Nat.le_of_ble_eq_true rfl, Nat.le_of_ble_eq_true rfl⟩) (zz_lt h0 (by decide)) (zz_c8 h0) rfl rfl hl.1 rfl (Nat.le_of_ble_eq_true rfl) dX8_of_23 (fun r_4 M_5 => ?_)
    exact zz_iret C hr dX8_of_26
  · refine zz_iload_n C dX8_of_11 rfl (lv_at hl 2 rfl) ?_
    refine zz_iconst (v := 0) C dX8_of_12 (by decide) ?_
    refine zz_iconst (v := 4) C dX8_of_13 (by decide) ?_
    refine zz_callSi (As := [.int x2, .int (0 : Int32), .int (4 : Int32)]) (rest := []) C (m_X8_within l E x2 (0 : Int32) (4 : Int32)  M_2) (va_cwS 3 C.1.2.2.2.2 gX8_of_X8_within rfl rfl rfl hdS_X8_within ⟨Nat.le_of_ble_eq_true rfl, Nat.le_of_ble_eq_true rfl⟩) rfl hl.1 rfl (Nat.le_of_ble_eq_true rfl) dX8_of_14 (fun r_6 M_7 => ?_)
    refine zz_if_ne (tgt := 27) C dX8_of_17 (by decide) (fun c_8 => ?_) (fun c_8 => ?_)
    · refine zz_aload_n C dX8_of_20 rfl (lv_at hl 0 rfl) ?_
      refine zz_ldc (v := -1000000001) C (List.mem_of_getElem? (i := 2) rfl) dX8_of_21 ?_
      refine zz_callVi (As := [.int (-1000000001 : Int32)]) (rest := []) C (m_X8_finding l E a0 (-1000000001 : Int32) h0 M_7) (cwV 1 C.1.2.2.2.2 gX8_of_X8_finding rfl rfl rfl hdV_X8_finding ⟨Nat.le_of_ble_eq_true rfl, Nat.le_of_ble_eq_true rfl⟩) (zz_lt h0 (by decide)) (zz_c8 h0) rfl rfl hl.1 rfl (Nat.le_of_ble_eq_true rfl) dX8_of_23 (fun r_18 M_19 => ?_)
      exact zz_iret C hr dX8_of_26
    · refine zz_aload_n C dX8_of_27 rfl (lv_at hl 0 rfl) ?_
      refine zz_get C (zz_lt h0 (by decide)) (zz_c8 h0) rfl in_X8_of_X8 0 (by decide) (List.mem_of_getElem? (i := 1) rfl) rfl dX8_of_28 ?_
      refine zz_get C (zz_lt (zz_s8_0 h0) (by decide)) (zz_c1 (zz_s8_0 h0)) rfl in_X8_of_X1 1 (by decide) (List.mem_of_getElem? (i := 3) rfl) rfl dX8_of_31 ?_
      refine zz_iload_n C dX8_of_34 rfl (lv_at hl 1 rfl) ?_
      refine zz_aald (t := 2) (g := fun i => (1 + 7) + 1 + 2 * i) C (zz_lt (zz_s1_1 (zz_s8_0 h0)) (by decide)) (zz_c18 (zz_s1_1 (zz_s8_0 h0))) rfl dX8_of_35 (fun b_9 => ?_)
      refine zz_astore_n (lv' := [(3, .ref (E.1 + ((1 + 7) + 1 + 2 * zz_n x1))), (0, .ref (E.1 + a0)), (1, .int x1), (2, .int x2)]) C dX8_of_36 rfl hl (by decide) rfl (fun ls hl => ?_)
      refine zz_iload_n C dX8_of_37 rfl (lv_at hl 3 rfl) ?_
      refine zz_ite (fun c_10 => ?_) (fun c_10 => ?_)
      · refine zz_tabIn (tgt := 68) C dX8_of_38 (by rw [c_10]; decide) (by rw [c_10]; decide) (by rw [c_10]; rfl) (by decide) ?_
        refine zz_aload_n C dX8_of_68 rfl (lv_at hl 0 rfl) ?_
        refine zz_get C (zz_lt (zz_e18 (zz_s1_1 (zz_s8_0 h0)) b_9) (by decide)) (zz_c0 (zz_e18 (zz_s1_1 (zz_s8_0 h0)) b_9)) rfl in_X8_of_X0 0 (by decide) (List.mem_of_getElem? (i := 4) rfl) rfl dX8_of_69 ?_
        exact zz_iret C hr dX8_of_72
      · refine zz_ite (fun c_11 => ?_) (fun c_11 => ?_)
        · refine zz_tabIn (tgt := 73) C dX8_of_38 (by rw [c_11]; decide) (by rw [c_11]; decide) (by rw [c_11]; rfl) (by decide) ?_
          refine zz_aload_n C dX8_of_73 rfl (lv_at hl 0 rfl) ?_
          refine zz_get C (zz_lt (zz_e18 (zz_s1_1 (zz_s8_0 h0)) b_9) (by decide)) (zz_c0 (zz_e18 (zz_s1_1 (zz_s8_0 h0)) b_9)) rfl in_X8_of_X0 1 (by decide) (List.mem_of_getElem? (i := 5) rfl) rfl dX8_of_74 ?_
          exact zz_iret C hr dX8_of_77
        · refine zz_ite (fun c_12 => ?_) (fun c_12 => ?_)
          · refine zz_tabIn (tgt := 78) C dX8_of_38 (by rw [c_12]; decide) (by rw [c_12]; decide) (by rw [c_12]; rfl) (by decide) ?_
            refine zz_aload_n C dX8_of_78 rfl (lv_at hl 0 rfl) ?_
            refine zz_callVi (As := []) (rest := []) C (m_X0_grams l E ((1 + 7) + 1 + 2 * zz_n x1) (zz_e18 (zz_s1_1 (zz_s8_0 h0)) b_9) M_7) (cwV 0 C.1.2.2.2.2 gX8_of_X0_grams rfl rfl rfl hdV_X0_grams ⟨Nat.le_of_ble_eq_true rfl, Nat.le_of_ble_eq_true rfl⟩) (zz_lt (zz_e18 (zz_s1_1 (zz_s8_0 h0)) b_9) (by decide)) (zz_c0 (zz_e18 (zz_s1_1 (zz_s8_0 h0)) b_9)) rfl rfl hl.1 rfl (Nat.le_of_ble_eq_true rfl) dX8_of_79 (fun r_13 M_14 => ?_)
            exact zz_iret C hr dX8_of_82
          · refine zz_ite (fun c_15 => ?_) (fun c_15 => ?_)
            · refine zz_tabIn (tgt := 83) C dX8_of_38 (by rw [c_15]; decide) (by rw [c_15]; decide) (by rw [c_15]; rfl) (by decide) ?_
              refine zz_aload_n C dX8_of_83 rfl (lv_at hl 0 rfl) ?_
              refine zz_get C (zz_lt (zz_e18 (zz_s1_1 (zz_s8_0 h0)) b_9) (by decide)) (zz_c0 (zz_e18 (zz_s1_1 (zz_s8_0 h0)) b_9)) rfl in_X8_of_X0 3 (by decide) (List.mem_of_getElem? (i := 6) rfl) rfl dX8_of_84 ?_
              exact zz_iret C hr dX8_of_87
            · refine zz_tabOut (tgt := 88) C dX8_of_38 (by have q0 : x2.toInt ≠ 0 := zz_ne c_10; have q1 : x2.toInt ≠ 1 := zz_ne c_11; have q2 : x2.toInt ≠ 2 := zz_ne c_12; have q3 : x2.toInt ≠ 3 := zz_ne c_15; omega) (by decide) ?_
              refine zz_aload_n C dX8_of_88 rfl (lv_at hl 0 rfl) ?_
              refine zz_callVi (As := []) (rest := []) C (m_X0_minutes l E ((1 + 7) + 1 + 2 * zz_n x1) (zz_e18 (zz_s1_1 (zz_s8_0 h0)) b_9) M_7) (cwV 0 C.1.2.2.2.2 gX8_of_X0_minutes rfl rfl rfl hdV_X0_minutes ⟨Nat.le_of_ble_eq_true rfl, Nat.le_of_ble_eq_true rfl⟩) (zz_lt (zz_e18 (zz_s1_1 (zz_s8_0 h0)) b_9) (by decide)) (zz_c0 (zz_e18 (zz_s1_1 (zz_s8_0 h0)) b_9)) rfl rfl hl.1 rfl (Nat.le_of_ble_eq_true rfl) dX8_of_89 (fun r_16 M_17 => ?_)
              exact zz_iret C hr dX8_of_92
-- X8_layer ('X8', 'layer', '(II)I')
theorem in_X8_layer_X0 : ∀ w ∈ u_ws RX0 TX0 5, w ∈ wsX8_layer := fun _ h => List.mem_cons_of_mem _ (List.mem_append_right _ h)
theorem in_X8_layer_X1 : ∀ w ∈ u_ws RX1 TX1 3, w ∈ wsX8_layer := fun _ h => List.mem_cons_of_mem _ (List.mem_append_left _ (List.mem_append_right _ h))
theorem in_X8_layer_X8 : ∀ w ∈ u_ws RX8 TX8 11, w ∈ wsX8_layer := fun _ h => List.mem_cons_of_mem _ (List.mem_append_left _ (List.mem_append_left _ (List.mem_append_right _ h)))
def f_X8_layer (a0 : Nat) (x1 : Int32) (x2 : Int32) (M : zz_M) : Option (Int32 × zz_M) := zz_bd (f_X1_has 1 x1 M) (fun r_1 M_2 => (if r_1 = 0 then zz_bd (f_X8_finding a0 (-1000000001 : Int32) M_2) (fun r_4 M_5 => some (r_4, M_5)) else (if 0 ≤ x2 then (if zz_in x1 10 = true then (if x2 < (zz_i M_2 ((1 + 7) + 1 + 2 * zz_n x1) 1) then (if zz_in x2 40 = true then some ((zz_i M_2 (((1 + 7) + 1 + 2 * zz_n x1) + 1) (zz_n x2)), M_2) else none) else zz_bd (f_X8_finding a0 (-1000000004 : Int32) M_2) (fun r_9 M_10 => some (r_9, M_10))) else none) else zz_bd (f_X8_finding a0 (-1000000001 : Int32) M_2) (fun r_11 M_12 => some (r_11, M_12)))))
set_option maxRecDepth 100000 in
set_option maxHeartbeats 4000000 in
theorem m_X8_layer (l : Launch) (E : zz_E) (a0 : Nat) (x1 : Int32) (x2 : Int32) (h0 : zz_sh a0 = 8) (M : zz_M) : zz_Met (zz_pi E) l yX8_layer wsX8_layer 3 E [.ref (E.1 + a0), .int x1, .int x2] M (f_X8_layer a0 x1 x2 M) := by
  refine zz_met (cc := cX8_layer) (nL := 4) (ret := (some .int)) (by decide) rfl (Nat.le_of_ble_eq_true rfl) ?_
  intro p e s m below meth c C hr ls hl
  have C : zz_C E RX8 cX8_layer 4 wsX8_layer p s m [.ref (E.1 + a0), .int x1, .int x2].toArray meth c := C
  have hl : lv_has ls 4 [(0, .ref (E.1 + a0)), (1, .int x1), (2, .int x2)] := hl
  unfold f_X8_layer
  refine zz_aload_n C dX8_layer_0 rfl (lv_at hl 0 rfl) ?_
  refine zz_get C (zz_lt h0 (by decide)) (zz_c8 h0) rfl in_X8_layer_X8 0 (by decide) (List.mem_of_getElem? (i := 1) rfl) rfl dX8_layer_1 ?_
  refine zz_iload_n C dX8_layer_4 rfl (lv_at hl 1 rfl) ?_
  refine zz_callVi (As := [.int x1]) (rest := []) C (m_X1_has l E 1 x1 (zz_s8_0 h0) M) (cwV 1 C.1.2.2.2.2 gX8_layer_X1_has rfl rfl rfl hdV_X1_has ⟨Nat.le_of_ble_eq_true rfl, Nat.le_of_ble_eq_true rfl⟩) (zz_lt (zz_s8_0 h0) (by decide)) (zz_c1 (zz_s8_0 h0)) rfl rfl hl.1 rfl (Nat.le_of_ble_eq_true rfl) dX8_layer_5 (fun r_1 M_2 => ?_)
  refine zz_if_eq (tgt := 15) C dX8_layer_8 (by decide) (fun c_3 => ?_) (fun c_3 => ?_)
  · refine zz_aload_n C dX8_layer_15 rfl (lv_at hl 0 rfl) ?_
    refine zz_ldc (v := -1000000001) C (List.mem_of_getElem? (i := 2) rfl) dX8_layer_16 ?_
    refine zz_callVi (As := [.int (-1000000001 : Int32)]) (rest := []) C (m_X8_finding l E a0 (-1000000001 : Int32) h0 M_2) (cwV 1 C.1.2.2.2.2 gX8_layer_X8_finding rfl rfl rfl hdV_X8_finding ⟨Nat.le_of_ble_eq_true rfl, Nat.le_of_ble_eq_true rfl⟩) (zz_lt h0 (by decide)) (zz_c8 h0) rfl rfl hl.1 rfl (Nat.le_of_ble_eq_true rfl) dX8_layer_18 (fun r_4 M_5 => ?_)
    exact zz_iret C hr dX8_layer_21
  · refine zz_iload_n C dX8_layer_11 rfl (lv_at hl 2 rfl) ?_
    refine zz_if_ge (tgt := 22) C dX8_layer_12 (by decide) (fun c_6 => ?_) (fun c_6 => ?_)
    · refine zz_aload_n C dX8_layer_22 rfl (lv_at hl 0 rfl) ?_
      refine zz_get C (zz_lt h0 (by decide)) (zz_c8 h0) rfl in_X8_layer_X8 0 (by decide) (List.mem_of_getElem? (i := 1) rfl) rfl dX8_layer_23 ?_
      refine zz_get C (zz_lt (zz_s8_0 h0) (by decide)) (zz_c1 (zz_s8_0 h0)) rfl in_X8_layer_X1 1 (by decide) (List.mem_of_getElem? (i := 3) rfl) rfl dX8_layer_26 ?_
      refine zz_iload_n C dX8_layer_29 rfl (lv_at hl 1 rfl) ?_
      refine zz_aald (t := 2) (g := fun i => (1 + 7) + 1 + 2 * i) C (zz_lt (zz_s1_1 (zz_s8_0 h0)) (by decide)) (zz_c18 (zz_s1_1 (zz_s8_0 h0))) rfl dX8_layer_30 (fun b_7 => ?_)
      refine zz_astore_n (lv' := [(3, .ref (E.1 + ((1 + 7) + 1 + 2 * zz_n x1))), (0, .ref (E.1 + a0)), (1, .int x1), (2, .int x2)]) C dX8_layer_31 rfl hl (by decide) rfl (fun ls hl => ?_)
      refine zz_iload_n C dX8_layer_32 rfl (lv_at hl 3 rfl) ?_
      refine zz_aload_n C dX8_layer_33 rfl (lv_at hl 0 rfl) ?_
      refine zz_get C (zz_lt (zz_e18 (zz_s1_1 (zz_s8_0 h0)) b_7) (by decide)) (zz_c0 (zz_e18 (zz_s1_1 (zz_s8_0 h0)) b_7)) rfl in_X8_layer_X0 1 (by decide) (List.mem_of_getElem? (i := 4) rfl) rfl dX8_layer_34 ?_
      refine zz_icmp_lt (tgt := 47) C dX8_layer_37 (by decide) (fun c_8 => ?_) (fun c_8 => ?_)
      · refine zz_aload_n C dX8_layer_47 rfl (lv_at hl 0 rfl) ?_
        refine zz_get C (zz_lt (zz_e18 (zz_s1_1 (zz_s8_0 h0)) b_7) (by decide)) (zz_c0 (zz_e18 (zz_s1_1 (zz_s8_0 h0)) b_7)) rfl in_X8_layer_X0 4 (by decide) (List.mem_of_getElem? (i := 6) rfl) rfl dX8_layer_48 ?_
        refine zz_iload_n C dX8_layer_51 rfl (lv_at hl 3 rfl) ?_
        refine zz_iald C (zz_lt (zz_s0_4 (zz_e18 (zz_s1_1 (zz_s8_0 h0)) b_7)) (by decide)) (zz_c10 (zz_s0_4 (zz_e18 (zz_s1_1 (zz_s8_0 h0)) b_7))) dX8_layer_52 ?_
        exact zz_iret C hr dX8_layer_53
      · refine zz_aload_n C dX8_layer_40 rfl (lv_at hl 1 rfl) ?_
        refine zz_ldc (v := -1000000004) C (List.mem_of_getElem? (i := 5) rfl) dX8_layer_41 ?_
        refine zz_callVi (As := [.int (-1000000004 : Int32)]) (rest := []) C (m_X8_finding l E a0 (-1000000004 : Int32) h0 M_2) (cwV 1 C.1.2.2.2.2 gX8_layer_X8_finding rfl rfl rfl hdV_X8_finding ⟨Nat.le_of_ble_eq_true rfl, Nat.le_of_ble_eq_true rfl⟩) (zz_lt h0 (by decide)) (zz_c8 h0) rfl rfl hl.1 rfl (Nat.le_of_ble_eq_true rfl) dX8_layer_43 (fun r_9 M_10 => ?_)
        exact zz_iret C hr dX8_layer_46
    · refine zz_aload_n C dX8_layer_15 rfl (lv_at hl 0 rfl) ?_
      refine zz_ldc (v := -1000000001) C (List.mem_of_getElem? (i := 2) rfl) dX8_layer_16 ?_
      refine zz_callVi (As := [.int (-1000000001 : Int32)]) (rest := []) C (m_X8_finding l E a0 (-1000000001 : Int32) h0 M_2) (cwV 1 C.1.2.2.2.2 gX8_layer_X8_finding rfl rfl rfl hdV_X8_finding ⟨Nat.le_of_ble_eq_true rfl, Nat.le_of_ble_eq_true rfl⟩) (zz_lt h0 (by decide)) (zz_c8 h0) rfl rfl hl.1 rfl (Nat.le_of_ble_eq_true rfl) dX8_layer_18 (fun r_11 M_12 => ?_)
      exact zz_iret C hr dX8_layer_21
-- X8_turn ('X8', 'turn', '(II)I')
theorem in_X8_turn_X0 : ∀ w ∈ u_ws RX0 TX0 5, w ∈ wsX8_turn := fun _ h => List.mem_cons_of_mem _ (List.mem_append_right _ h)
theorem in_X8_turn_X1 : ∀ w ∈ u_ws RX1 TX1 3, w ∈ wsX8_turn := fun _ h => List.mem_cons_of_mem _ (List.mem_append_left _ (List.mem_append_right _ h))
theorem in_X8_turn_X8 : ∀ w ∈ u_ws RX8 TX8 11, w ∈ wsX8_turn := fun _ h => List.mem_cons_of_mem _ (List.mem_append_left _ (List.mem_append_left _ (List.mem_append_right _ h)))
def f_X8_turn (a0 : Nat) (x1 : Int32) (x2 : Int32) (M : zz_M) : Option (Int32 × zz_M) := zz_bd (f_X1_has 1 x1 M) (fun r_1 M_2 => (if r_1 = 0 then zz_bd (f_X8_finding a0 (-1000000001 : Int32) M_2) (fun r_4 M_5 => some (r_4, M_5)) else zz_bd (f_X8_isKind x2 M_2) (fun r_6 M_7 => (if r_6 = 0 then zz_bd (f_X8_finding a0 (-1000000001 : Int32) M_7) (fun r_12 M_13 => some (r_12, M_13)) else (if zz_in x1 10 = true then zz_w (zz_i M_7 ((1 + 7) + 1 + 2 * zz_n x1) 0) (fun x4_10 => zz_w (zz_si M_7 ((1 + 7) + 1 + 2 * zz_n x1) 0 x2) (fun M_11 => some (x4_10, M_11))) else none)))))
set_option maxRecDepth 100000 in
set_option maxHeartbeats 4000000 in
theorem m_X8_turn (l : Launch) (E : zz_E) (a0 : Nat) (x1 : Int32) (x2 : Int32) (h0 : zz_sh a0 = 8) (M : zz_M) : zz_Met (zz_pi E) l yX8_turn wsX8_turn 3 E [.ref (E.1 + a0), .int x1, .int x2] M (f_X8_turn a0 x1 x2 M) := by
  refine zz_met (cc := cX8_turn) (nL := 5) (ret := (some .int)) (by decide) rfl (Nat.le_of_ble_eq_true rfl) ?_
  intro p e s m below meth c C hr ls hl
  have C : zz_C E RX8 cX8_turn 5 wsX8_turn p s m [.ref (E.1 + a0), .int x1, .int x2].toArray meth c := C
  have hl : lv_has ls 5 [(0, .ref (E.1 + a0)), (1, .int x1), (2, .int x2)] := hl
  unfold f_X8_turn
  refine zz_aload_n C dX8_turn_0 rfl (lv_at hl 0 rfl) ?_
  refine zz_get C (zz_lt h0 (by decide)) (zz_c8 h0) rfl in_X8_turn_X8 0 (by decide) (List.mem_of_getElem? (i := 1) rfl) rfl dX8_turn_1 ?_
  refine zz_iload_n C dX8_turn_4 rfl (lv_at hl 1 rfl) ?_
  refine zz_callVi (As := [.int x1]) (rest := []) C (m_X1_has l E 1 x1 (zz_s8_0 h0) M) (cwV 1 C.1.2.2.2.2 gX8_turn_X1_has rfl rfl rfl hdV_X1_has ⟨Nat.le_of_ble_eq_true rfl, Nat.le_of_ble_eq_true rfl⟩) (zz_lt (zz_s8_0 h0) (by decide)) (zz_c1 (zz_s8_0 h0)) rfl rfl hl.1 rfl (Nat.le_of_ble_eq_true rfl) dX8_turn_5 (fun r_1 M_2 => ?_)
  refine zz_if_eq (tgt := 18) C dX8_turn_8 (by decide) (fun c_3 => ?_) (fun c_3 => ?_)
  · refine zz_aload_n C dX8_turn_18 rfl (lv_at hl 0 rfl) ?_
    refine zz_ldc (v := -1000000001) C (List.mem_of_getElem? (i := 2) rfl) dX8_turn_19 ?_
    refine zz_callVi (As := [.int (-1000000001 : Int32)]) (rest := []) C (m_X8_finding l E a0 (-1000000001 : Int32) h0 M_2) (cwV 1 C.1.2.2.2.2 gX8_turn_X8_finding rfl rfl rfl hdV_X8_finding ⟨Nat.le_of_ble_eq_true rfl, Nat.le_of_ble_eq_true rfl⟩) (zz_lt h0 (by decide)) (zz_c8 h0) rfl rfl hl.1 rfl (Nat.le_of_ble_eq_true rfl) dX8_turn_21 (fun r_4 M_5 => ?_)
    exact zz_iret C hr dX8_turn_24
  · refine zz_iload_n C dX8_turn_11 rfl (lv_at hl 2 rfl) ?_
    refine zz_callSi (As := [.int x2]) (rest := []) C (m_X8_isKind l E x2  M_2) (va_cwS 1 C.1.2.2.2.2 gX8_turn_X8_isKind rfl rfl rfl hdS_X8_isKind ⟨Nat.le_of_ble_eq_true rfl, Nat.le_of_ble_eq_true rfl⟩) rfl hl.1 rfl (Nat.le_of_ble_eq_true rfl) dX8_turn_12 (fun r_6 M_7 => ?_)
    refine zz_if_ne (tgt := 25) C dX8_turn_15 (by decide) (fun c_8 => ?_) (fun c_8 => ?_)
    · refine zz_aload_n C dX8_turn_18 rfl (lv_at hl 0 rfl) ?_
      refine zz_ldc (v := -1000000001) C (List.mem_of_getElem? (i := 2) rfl) dX8_turn_19 ?_
      refine zz_callVi (As := [.int (-1000000001 : Int32)]) (rest := []) C (m_X8_finding l E a0 (-1000000001 : Int32) h0 M_7) (cwV 1 C.1.2.2.2.2 gX8_turn_X8_finding rfl rfl rfl hdV_X8_finding ⟨Nat.le_of_ble_eq_true rfl, Nat.le_of_ble_eq_true rfl⟩) (zz_lt h0 (by decide)) (zz_c8 h0) rfl rfl hl.1 rfl (Nat.le_of_ble_eq_true rfl) dX8_turn_21 (fun r_12 M_13 => ?_)
      exact zz_iret C hr dX8_turn_24
    · refine zz_aload_n C dX8_turn_25 rfl (lv_at hl 0 rfl) ?_
      refine zz_get C (zz_lt h0 (by decide)) (zz_c8 h0) rfl in_X8_turn_X8 0 (by decide) (List.mem_of_getElem? (i := 1) rfl) rfl dX8_turn_26 ?_
      refine zz_get C (zz_lt (zz_s8_0 h0) (by decide)) (zz_c1 (zz_s8_0 h0)) rfl in_X8_turn_X1 1 (by decide) (List.mem_of_getElem? (i := 3) rfl) rfl dX8_turn_29 ?_
      refine zz_iload_n C dX8_turn_32 rfl (lv_at hl 1 rfl) ?_
      refine zz_aald (t := 2) (g := fun i => (1 + 7) + 1 + 2 * i) C (zz_lt (zz_s1_1 (zz_s8_0 h0)) (by decide)) (zz_c18 (zz_s1_1 (zz_s8_0 h0))) rfl dX8_turn_33 (fun b_9 => ?_)
      refine zz_astore_n (lv' := [(3, .ref (E.1 + ((1 + 7) + 1 + 2 * zz_n x1))), (0, .ref (E.1 + a0)), (1, .int x1), (2, .int x2)]) C dX8_turn_34 rfl hl (by decide) rfl (fun ls hl => ?_)
      refine zz_aload_n C dX8_turn_35 rfl (lv_at hl 0 rfl) ?_
      refine zz_get C (zz_lt (zz_e18 (zz_s1_1 (zz_s8_0 h0)) b_9) (by decide)) (zz_c0 (zz_e18 (zz_s1_1 (zz_s8_0 h0)) b_9)) rfl in_X8_turn_X0 0 (by decide) (List.mem_of_getElem? (i := 4) rfl) rfl dX8_turn_36 ?_
      refine zz_istore C (fun x4_10 => [(4, .int x4_10), (3, .ref (E.1 + ((1 + 7) + 1 + 2 * zz_n x1))), (0, .ref (E.1 + a0)), (1, .int x1), (2, .int x2)]) dX8_turn_39 hl (by decide) (fun _ => rfl) (fun x4_10 ls hl => ?_)
      refine zz_aload_n C dX8_turn_41 rfl (lv_at hl 1 rfl) ?_
      refine zz_iload_n C dX8_turn_42 rfl (lv_at hl 4 rfl) ?_
      refine zz_put (M1 := zz_si M_7 ((1 + 7) + 1 + 2 * zz_n x1) 0 x2) C (zz_lt (zz_e18 (zz_s1_1 (zz_s8_0 h0)) b_9) (by decide)) (zz_c0 (zz_e18 (zz_s1_1 (zz_s8_0 h0)) b_9)) rfl in_X8_turn_X0 tyX0 tyX0_ok nmX0 0 (by decide) (List.mem_of_getElem? (i := 4) rfl) rfl rfl rfl (Nat.le_of_ble_eq_true rfl) (zz_p0_0 (zz_e18 (zz_s1_1 (zz_s8_0 h0)) b_9)) zz_cell_si dX8_turn_43 (fun M_11 => ?_)
      refine zz_iload C dX8_turn_46 (lv_at hl 0 rfl) ?_
      exact zz_iret C hr dX8_turn_48
-- X8_as ('X8', 'as', '(II)I')
theorem in_X8_as_X0 : ∀ w ∈ u_ws RX0 TX0 5, w ∈ wsX8_as := fun _ h => List.mem_cons_of_mem _ (List.mem_append_right _ h)
theorem in_X8_as_X1 : ∀ w ∈ u_ws RX1 TX1 3, w ∈ wsX8_as := fun _ h => List.mem_cons_of_mem _ (List.mem_append_left _ (List.mem_append_right _ h))
theorem in_X8_as_X8 : ∀ w ∈ u_ws RX8 TX8 11, w ∈ wsX8_as := fun _ h => List.mem_cons_of_mem _ (List.mem_append_left _ (List.mem_append_left _ (List.mem_append_right _ h)))
theorem hdS_X8_isUnder : yX8_isUnder.cls ≠ "java/lang/invoke/MethodHandle" ∧ yX8_isUnder.cls ≠ "java/lang/invoke/VarHandle" ∧ (parseMethodDescriptor yX8_isUnder.desc).map (fun d => d.parameters.length) = some 2 := by decide +kernel
def f_X8_as (a0 : Nat) (x1 : Int32) (x2 : Int32) (M : zz_M) : Option (Int32 × zz_M) := zz_bd (f_X1_has 1 x1 M) (fun r_1 M_2 => (if r_1 = 0 then zz_bd (f_X8_finding a0 (-1000000001 : Int32) M_2) (fun r_4 M_5 => some (r_4, M_5)) else zz_bd (f_X8_isKind x2 M_2) (fun r_6 M_7 => (if r_6 = 0 then zz_bd (f_X8_finding a0 (-1000000001 : Int32) M_7) (fun r_17 M_18 => some (r_17, M_18)) else (if zz_in x1 10 = true then zz_bd (f_X8_isUnder (zz_i M_7 ((1 + 7) + 1 + 2 * zz_n x1) 0) x2 M_7) (fun r_10 M_11 => (if r_10 = 0 then zz_bd (f_X8_finding a0 (-1000000003 : Int32) M_11) (fun r_15 M_16 => some (r_15, M_16)) else zz_bd (f_X0_minutes ((1 + 7) + 1 + 2 * zz_n x1) M_11) (fun r_13 M_14 => some (r_13, M_14)))) else none)))))
set_option maxRecDepth 100000 in
set_option maxHeartbeats 4000000 in
theorem m_X8_as (l : Launch) (E : zz_E) (a0 : Nat) (x1 : Int32) (x2 : Int32) (h0 : zz_sh a0 = 8) (M : zz_M) : zz_Met (zz_pi E) l yX8_as wsX8_as 4 E [.ref (E.1 + a0), .int x1, .int x2] M (f_X8_as a0 x1 x2 M) := by
  refine zz_met (cc := cX8_as) (nL := 4) (ret := (some .int)) (by decide) rfl (Nat.le_of_ble_eq_true rfl) ?_
  intro p e s m below meth c C hr ls hl
  have C : zz_C E RX8 cX8_as 4 wsX8_as p s m [.ref (E.1 + a0), .int x1, .int x2].toArray meth c := C
  have hl : lv_has ls 4 [(0, .ref (E.1 + a0)), (1, .int x1), (2, .int x2)] := hl
  unfold f_X8_as
  refine zz_aload_n C dX8_as_0 rfl (lv_at hl 0 rfl) ?_
  refine zz_get C (zz_lt h0 (by decide)) (zz_c8 h0) rfl in_X8_as_X8 0 (by decide) (List.mem_of_getElem? (i := 1) rfl) rfl dX8_as_1 ?_
  refine zz_iload_n C dX8_as_4 rfl (lv_at hl 1 rfl) ?_
  refine zz_callVi (As := [.int x1]) (rest := []) C (m_X1_has l E 1 x1 (zz_s8_0 h0) M) (cwV 1 C.1.2.2.2.2 gX8_as_X1_has rfl rfl rfl hdV_X1_has ⟨Nat.le_of_ble_eq_true rfl, Nat.le_of_ble_eq_true rfl⟩) (zz_lt (zz_s8_0 h0) (by decide)) (zz_c1 (zz_s8_0 h0)) rfl rfl hl.1 rfl (Nat.le_of_ble_eq_true rfl) dX8_as_5 (fun r_1 M_2 => ?_)
  refine zz_if_eq (tgt := 18) C dX8_as_8 (by decide) (fun c_3 => ?_) (fun c_3 => ?_)
  · refine zz_aload_n C dX8_as_18 rfl (lv_at hl 0 rfl) ?_
    refine zz_ldc (v := -1000000001) C (List.mem_of_getElem? (i := 2) rfl) dX8_as_19 ?_
    refine zz_callVi (As := [.int (-1000000001 : Int32)]) (rest := []) C (m_X8_finding l E a0 (-1000000001 : Int32) h0 M_2) (cwV 1 C.1.2.2.2.2 gX8_as_X8_finding rfl rfl rfl hdV_X8_finding ⟨Nat.le_of_ble_eq_true rfl, Nat.le_of_ble_eq_true rfl⟩) (zz_lt h0 (by decide)) (zz_c8 h0) rfl rfl hl.1 rfl (Nat.le_of_ble_eq_true rfl) dX8_as_21 (fun r_4 M_5 => ?_)
    exact zz_iret C hr dX8_as_24
  · refine zz_iload_n C dX8_as_11 rfl (lv_at hl 2 rfl) ?_
    refine zz_callSi (As := [.int x2]) (rest := []) C (m_X8_isKind l E x2  M_2) (va_cwS 1 C.1.2.2.2.2 gX8_as_X8_isKind rfl rfl rfl hdS_X8_isKind ⟨Nat.le_of_ble_eq_true rfl, Nat.le_of_ble_eq_true rfl⟩) rfl hl.1 rfl (Nat.le_of_ble_eq_true rfl) dX8_as_12 (fun r_6 M_7 => ?_)
    refine zz_if_ne (tgt := 25) C dX8_as_15 (by decide) (fun c_8 => ?_) (fun c_8 => ?_)
    · refine zz_aload_n C dX8_as_18 rfl (lv_at hl 0 rfl) ?_
      refine zz_ldc (v := -1000000001) C (List.mem_of_getElem? (i := 2) rfl) dX8_as_19 ?_
      refine zz_callVi (As := [.int (-1000000001 : Int32)]) (rest := []) C (m_X8_finding l E a0 (-1000000001 : Int32) h0 M_7) (cwV 1 C.1.2.2.2.2 gX8_as_X8_finding rfl rfl rfl hdV_X8_finding ⟨Nat.le_of_ble_eq_true rfl, Nat.le_of_ble_eq_true rfl⟩) (zz_lt h0 (by decide)) (zz_c8 h0) rfl rfl hl.1 rfl (Nat.le_of_ble_eq_true rfl) dX8_as_21 (fun r_17 M_18 => ?_)
      exact zz_iret C hr dX8_as_24
    · refine zz_aload_n C dX8_as_25 rfl (lv_at hl 0 rfl) ?_
      refine zz_get C (zz_lt h0 (by decide)) (zz_c8 h0) rfl in_X8_as_X8 0 (by decide) (List.mem_of_getElem? (i := 1) rfl) rfl dX8_as_26 ?_
      refine zz_get C (zz_lt (zz_s8_0 h0) (by decide)) (zz_c1 (zz_s8_0 h0)) rfl in_X8_as_X1 1 (by decide) (List.mem_of_getElem? (i := 3) rfl) rfl dX8_as_29 ?_
      refine zz_iload_n C dX8_as_32 rfl (lv_at hl 1 rfl) ?_
      refine zz_aald (t := 2) (g := fun i => (1 + 7) + 1 + 2 * i) C (zz_lt (zz_s1_1 (zz_s8_0 h0)) (by decide)) (zz_c18 (zz_s1_1 (zz_s8_0 h0))) rfl dX8_as_33 (fun b_9 => ?_)
      refine zz_astore_n (lv' := [(3, .ref (E.1 + ((1 + 7) + 1 + 2 * zz_n x1))), (0, .ref (E.1 + a0)), (1, .int x1), (2, .int x2)]) C dX8_as_34 rfl hl (by decide) rfl (fun ls hl => ?_)
      refine zz_aload_n C dX8_as_35 rfl (lv_at hl 0 rfl) ?_
      refine zz_get C (zz_lt (zz_e18 (zz_s1_1 (zz_s8_0 h0)) b_9) (by decide)) (zz_c0 (zz_e18 (zz_s1_1 (zz_s8_0 h0)) b_9)) rfl in_X8_as_X0 0 (by decide) (List.mem_of_getElem? (i := 4) rfl) rfl dX8_as_36 ?_
      refine zz_iload_n C dX8_as_39 rfl (lv_at hl 3 rfl) ?_
      refine zz_callSi (As := [.int (zz_i M_7 ((1 + 7) + 1 + 2 * zz_n x1) 0), .int x2]) (rest := []) C (m_X8_isUnder l E (zz_i M_7 ((1 + 7) + 1 + 2 * zz_n x1) 0) x2  M_7) (va_cwS 2 C.1.2.2.2.2 gX8_as_X8_isUnder rfl rfl rfl hdS_X8_isUnder ⟨Nat.le_of_ble_eq_true rfl, Nat.le_of_ble_eq_true rfl⟩) rfl hl.1 rfl (Nat.le_of_ble_eq_true rfl) dX8_as_40 (fun r_10 M_11 => ?_)
      refine zz_if_ne (tgt := 53) C dX8_as_43 (by decide) (fun c_12 => ?_) (fun c_12 => ?_)
      · refine zz_aload_n C dX8_as_46 rfl (lv_at hl 1 rfl) ?_
        refine zz_ldc (v := -1000000003) C (List.mem_of_getElem? (i := 5) rfl) dX8_as_47 ?_
        refine zz_callVi (As := [.int (-1000000003 : Int32)]) (rest := []) C (m_X8_finding l E a0 (-1000000003 : Int32) h0 M_11) (cwV 1 C.1.2.2.2.2 gX8_as_X8_finding rfl rfl rfl hdV_X8_finding ⟨Nat.le_of_ble_eq_true rfl, Nat.le_of_ble_eq_true rfl⟩) (zz_lt h0 (by decide)) (zz_c8 h0) rfl rfl hl.1 rfl (Nat.le_of_ble_eq_true rfl) dX8_as_49 (fun r_15 M_16 => ?_)
        exact zz_iret C hr dX8_as_52
      · refine zz_aload_n C dX8_as_53 rfl (lv_at hl 0 rfl) ?_
        refine zz_callVi (As := []) (rest := []) C (m_X0_minutes l E ((1 + 7) + 1 + 2 * zz_n x1) (zz_e18 (zz_s1_1 (zz_s8_0 h0)) b_9) M_11) (cwV 0 C.1.2.2.2.2 gX8_as_X0_minutes rfl rfl rfl hdV_X0_minutes ⟨Nat.le_of_ble_eq_true rfl, Nat.le_of_ble_eq_true rfl⟩) (zz_lt (zz_e18 (zz_s1_1 (zz_s8_0 h0)) b_9) (by decide)) (zz_c0 (zz_e18 (zz_s1_1 (zz_s8_0 h0)) b_9)) rfl rfl hl.1 rfl (Nat.le_of_ble_eq_true rfl) dX8_as_54 (fun r_13 M_14 => ?_)
        exact zz_iret C hr dX8_as_57
-- X8_takes ('X8', 'takes', '(II)I')
theorem in_X8_takes_X1 : ∀ w ∈ u_ws RX1 TX1 3, w ∈ wsX8_takes := fun _ h => List.mem_cons_of_mem _ (List.mem_append_left _ (List.mem_append_left _ (List.mem_append_left _ (List.mem_append_right _ h))))
theorem in_X8_takes_X6 : ∀ w ∈ u_ws RX6 TX6 4, w ∈ wsX8_takes := fun _ h => List.mem_cons_of_mem _ (List.mem_append_left _ (List.mem_append_right _ h))
theorem in_X8_takes_X7 : ∀ w ∈ u_ws RX7 TX7 4, w ∈ wsX8_takes := fun _ h => List.mem_cons_of_mem _ (List.mem_append_left _ (List.mem_append_left _ (List.mem_append_right _ h)))
theorem in_X8_takes_X8 : ∀ w ∈ u_ws RX8 TX8 11, w ∈ wsX8_takes := fun _ h => List.mem_cons_of_mem _ (List.mem_append_left _ (List.mem_append_left _ (List.mem_append_left _ (List.mem_append_left _ (List.mem_append_right _ h)))))
def f_X8_takes (a0 : Nat) (x1 : Int32) (x2 : Int32) (M : zz_M) : Option (Int32 × zz_M) := zz_bd (f_X1_has 1 x1 M) (fun r_1 M_2 => (if r_1 = 0 then zz_bd (f_X8_finding a0 (-1000000001 : Int32) M_2) (fun r_4 M_5 => some (r_4, M_5)) else zz_bd (f_X8_isVat x2 M_2) (fun r_6 M_7 => (if r_6 = 0 then zz_bd (f_X8_finding a0 (-1000000001 : Int32) M_7) (fun r_13 M_14 => some (r_13, M_14)) else (if zz_in x1 10 = true then (if zz_in x2 4 = true then zz_bd (f_X0_gain ((1 + 7) + 1 + 2 * zz_n x1) (zz_i M_7 (((1 + 1) + 1) + 1 + zz_n x2) 1) M_7) (fun r_11 M_12 => some (r_11, M_12)) else none) else none)))))
set_option maxRecDepth 100000 in
set_option maxHeartbeats 4000000 in
theorem m_X8_takes (l : Launch) (E : zz_E) (a0 : Nat) (x1 : Int32) (x2 : Int32) (h0 : zz_sh a0 = 8) (M : zz_M) : zz_Met (zz_pi E) l yX8_takes wsX8_takes 3 E [.ref (E.1 + a0), .int x1, .int x2] M (f_X8_takes a0 x1 x2 M) := by
  refine zz_met (cc := cX8_takes) (nL := 3) (ret := (some .int)) (by decide) rfl (Nat.le_of_ble_eq_true rfl) ?_
  intro p e s m below meth c C hr ls hl
  have C : zz_C E RX8 cX8_takes 3 wsX8_takes p s m [.ref (E.1 + a0), .int x1, .int x2].toArray meth c := C
  have hl : lv_has ls 3 [(0, .ref (E.1 + a0)), (1, .int x1), (2, .int x2)] := hl
  unfold f_X8_takes
  refine zz_aload_n C dX8_takes_0 rfl (lv_at hl 0 rfl) ?_
  refine zz_get C (zz_lt h0 (by decide)) (zz_c8 h0) rfl in_X8_takes_X8 0 (by decide) (List.mem_of_getElem? (i := 1) rfl) rfl dX8_takes_1 ?_
  refine zz_iload_n C dX8_takes_4 rfl (lv_at hl 1 rfl) ?_
  refine zz_callVi (As := [.int x1]) (rest := []) C (m_X1_has l E 1 x1 (zz_s8_0 h0) M) (cwV 1 C.1.2.2.2.2 gX8_takes_X1_has rfl rfl rfl hdV_X1_has ⟨Nat.le_of_ble_eq_true rfl, Nat.le_of_ble_eq_true rfl⟩) (zz_lt (zz_s8_0 h0) (by decide)) (zz_c1 (zz_s8_0 h0)) rfl rfl hl.1 rfl (Nat.le_of_ble_eq_true rfl) dX8_takes_5 (fun r_1 M_2 => ?_)
  refine zz_if_eq (tgt := 18) C dX8_takes_8 (by decide) (fun c_3 => ?_) (fun c_3 => ?_)
  · refine zz_aload_n C dX8_takes_18 rfl (lv_at hl 0 rfl) ?_
    refine zz_ldc (v := -1000000001) C (List.mem_of_getElem? (i := 2) rfl) dX8_takes_19 ?_
    refine zz_callVi (As := [.int (-1000000001 : Int32)]) (rest := []) C (m_X8_finding l E a0 (-1000000001 : Int32) h0 M_2) (cwV 1 C.1.2.2.2.2 gX8_takes_X8_finding rfl rfl rfl hdV_X8_finding ⟨Nat.le_of_ble_eq_true rfl, Nat.le_of_ble_eq_true rfl⟩) (zz_lt h0 (by decide)) (zz_c8 h0) rfl rfl hl.1 rfl (Nat.le_of_ble_eq_true rfl) dX8_takes_21 (fun r_4 M_5 => ?_)
    exact zz_iret C hr dX8_takes_24
  · refine zz_iload_n C dX8_takes_11 rfl (lv_at hl 2 rfl) ?_
    refine zz_callSi (As := [.int x2]) (rest := []) C (m_X8_isVat l E x2  M_2) (va_cwS 1 C.1.2.2.2.2 gX8_takes_X8_isVat rfl rfl rfl hdS_X8_isVat ⟨Nat.le_of_ble_eq_true rfl, Nat.le_of_ble_eq_true rfl⟩) rfl hl.1 rfl (Nat.le_of_ble_eq_true rfl) dX8_takes_12 (fun r_6 M_7 => ?_)
    refine zz_if_ne (tgt := 25) C dX8_takes_15 (by decide) (fun c_8 => ?_) (fun c_8 => ?_)
    · refine zz_aload_n C dX8_takes_18 rfl (lv_at hl 0 rfl) ?_
      refine zz_ldc (v := -1000000001) C (List.mem_of_getElem? (i := 2) rfl) dX8_takes_19 ?_
      refine zz_callVi (As := [.int (-1000000001 : Int32)]) (rest := []) C (m_X8_finding l E a0 (-1000000001 : Int32) h0 M_7) (cwV 1 C.1.2.2.2.2 gX8_takes_X8_finding rfl rfl rfl hdV_X8_finding ⟨Nat.le_of_ble_eq_true rfl, Nat.le_of_ble_eq_true rfl⟩) (zz_lt h0 (by decide)) (zz_c8 h0) rfl rfl hl.1 rfl (Nat.le_of_ble_eq_true rfl) dX8_takes_21 (fun r_13 M_14 => ?_)
      exact zz_iret C hr dX8_takes_24
    · refine zz_aload_n C dX8_takes_25 rfl (lv_at hl 0 rfl) ?_
      refine zz_get C (zz_lt h0 (by decide)) (zz_c8 h0) rfl in_X8_takes_X8 0 (by decide) (List.mem_of_getElem? (i := 1) rfl) rfl dX8_takes_26 ?_
      refine zz_get C (zz_lt (zz_s8_0 h0) (by decide)) (zz_c1 (zz_s8_0 h0)) rfl in_X8_takes_X1 1 (by decide) (List.mem_of_getElem? (i := 3) rfl) rfl dX8_takes_29 ?_
      refine zz_iload_n C dX8_takes_32 rfl (lv_at hl 1 rfl) ?_
      refine zz_aald (t := 2) (g := fun i => (1 + 7) + 1 + 2 * i) C (zz_lt (zz_s1_1 (zz_s8_0 h0)) (by decide)) (zz_c18 (zz_s1_1 (zz_s8_0 h0))) rfl dX8_takes_33 (fun b_9 => ?_)
      refine zz_aload_n C dX8_takes_34 rfl (lv_at hl 0 rfl) ?_
      refine zz_get C (zz_lt h0 (by decide)) (zz_c8 h0) rfl in_X8_takes_X8 0 (by decide) (List.mem_of_getElem? (i := 1) rfl) rfl dX8_takes_35 ?_
      refine zz_get C (zz_lt (zz_s8_0 h0) (by decide)) (zz_c1 (zz_s8_0 h0)) rfl in_X8_takes_X1 0 (by decide) (List.mem_of_getElem? (i := 4) rfl) rfl dX8_takes_38 ?_
      refine zz_get C (zz_lt (zz_s1_0 (zz_s8_0 h0)) (by decide)) (zz_c7 (zz_s1_0 (zz_s8_0 h0))) rfl in_X8_takes_X7 0 (by decide) (List.mem_of_getElem? (i := 5) rfl) rfl dX8_takes_41 ?_
      refine zz_iload_n C dX8_takes_44 rfl (lv_at hl 2 rfl) ?_
      refine zz_aald (t := 4) (g := fun i => ((1 + 1) + 1) + 1 + i) C (zz_lt (zz_s7_0 (zz_s1_0 (zz_s8_0 h0))) (by decide)) (zz_c21 (zz_s7_0 (zz_s1_0 (zz_s8_0 h0)))) rfl dX8_takes_45 (fun b_10 => ?_)
      refine zz_get C (zz_lt (zz_e21 (zz_s7_0 (zz_s1_0 (zz_s8_0 h0))) b_10) (by decide)) (zz_c6 (zz_e21 (zz_s7_0 (zz_s1_0 (zz_s8_0 h0))) b_10)) rfl in_X8_takes_X6 1 (by decide) (List.mem_of_getElem? (i := 6) rfl) rfl dX8_takes_46 ?_
      refine zz_callVi (As := [.int (zz_i M_7 (((1 + 1) + 1) + 1 + zz_n x2) 1)]) (rest := []) C (m_X0_gain l E ((1 + 7) + 1 + 2 * zz_n x1) (zz_i M_7 (((1 + 1) + 1) + 1 + zz_n x2) 1) (zz_e18 (zz_s1_1 (zz_s8_0 h0)) b_9) M_7) (cwV 1 C.1.2.2.2.2 gX8_takes_X0_gain rfl rfl rfl hdV_X0_gain ⟨Nat.le_of_ble_eq_true rfl, Nat.le_of_ble_eq_true rfl⟩) (zz_lt (zz_e18 (zz_s1_1 (zz_s8_0 h0)) b_9) (by decide)) (zz_c0 (zz_e18 (zz_s1_1 (zz_s8_0 h0)) b_9)) rfl rfl hl.1 rfl (Nat.le_of_ble_eq_true rfl) dX8_takes_49 (fun r_11 M_12 => ?_)
      exact zz_iret C hr dX8_takes_52
-- X8_dip ('X8', 'dip', '(II)I')
theorem in_X8_dip_X1 : ∀ w ∈ u_ws RX1 TX1 3, w ∈ wsX8_dip := fun _ h => List.mem_cons_of_mem _ (List.mem_append_left _ (List.mem_append_left _ (List.mem_append_left _ (List.mem_append_right _ h))))
theorem in_X8_dip_X7 : ∀ w ∈ u_ws RX7 TX7 4, w ∈ wsX8_dip := fun _ h => List.mem_cons_of_mem _ (List.mem_append_left _ (List.mem_append_left _ (List.mem_append_right _ h)))
theorem in_X8_dip_X8 : ∀ w ∈ u_ws RX8 TX8 11, w ∈ wsX8_dip := fun _ h => List.mem_cons_of_mem _ (List.mem_append_left _ (List.mem_append_left _ (List.mem_append_left _ (List.mem_append_left _ (List.mem_append_right _ h)))))
def f_X8_dip (a0 : Nat) (x1 : Int32) (x2 : Int32) (M : zz_M) : Option (Int32 × zz_M) := zz_bd (f_X1_has 1 x1 M) (fun r_1 M_2 => (if r_1 = 0 then zz_bd (f_X8_finding a0 (-1000000001 : Int32) M_2) (fun r_4 M_5 => some (r_4, M_5)) else zz_bd (f_X8_isVat x2 M_2) (fun r_6 M_7 => (if r_6 = 0 then zz_bd (f_X8_finding a0 (-1000000001 : Int32) M_7) (fun r_19 M_20 => some (r_19, M_20)) else (if zz_in x1 10 = true then zz_bd (f_X0_isThick ((1 + 7) + 1 + 2 * zz_n x1) M_7) (fun r_10 M_11 => (if r_10 = 0 then (if zz_in x2 4 = true then zz_bd (f_X0_dipInto ((1 + 7) + 1 + 2 * zz_n x1) (((1 + 1) + 1) + 1 + zz_n x2) M_11) (fun _ M_14 => zz_bd (f_X0_grams ((1 + 7) + 1 + 2 * zz_n x1) M_14) (fun r_15 M_16 => some (r_15, M_16))) else none) else zz_bd (f_X8_finding a0 (-1000000005 : Int32) M_11) (fun r_17 M_18 => some (r_17, M_18)))) else none)))))
set_option maxRecDepth 100000 in
set_option maxHeartbeats 4000000 in
theorem m_X8_dip (l : Launch) (E : zz_E) (a0 : Nat) (x1 : Int32) (x2 : Int32) (h0 : zz_sh a0 = 8) (M : zz_M) : zz_Met (zz_pi E) l yX8_dip wsX8_dip 4 E [.ref (E.1 + a0), .int x1, .int x2] M (f_X8_dip a0 x1 x2 M) := by
  refine zz_met (cc := cX8_dip) (nL := 4) (ret := (some .int)) (by decide) rfl (Nat.le_of_ble_eq_true rfl) ?_
  intro p e s m below meth c C hr ls hl
  have C : zz_C E RX8 cX8_dip 4 wsX8_dip p s m [.ref (E.1 + a0), .int x1, .int x2].toArray meth c := C
  have hl : lv_has ls 4 [(0, .ref (E.1 + a0)), (1, .int x1), (2, .int x2)] := hl
  unfold f_X8_dip
  refine zz_aload_n C dX8_dip_0 rfl (lv_at hl 0 rfl) ?_
  refine zz_get C (zz_lt h0 (by decide)) (zz_c8 h0) rfl in_X8_dip_X8 0 (by decide) (List.mem_of_getElem? (i := 1) rfl) rfl dX8_dip_1 ?_
  refine zz_iload_n C dX8_dip_4 rfl (lv_at hl 1 rfl) ?_
  refine zz_callVi (As := [.int x1]) (rest := []) C (m_X1_has l E 1 x1 (zz_s8_0 h0) M) (cwV 1 C.1.2.2.2.2 gX8_dip_X1_has rfl rfl rfl hdV_X1_has ⟨Nat.le_of_ble_eq_true rfl, Nat.le_of_ble_eq_true rfl⟩) (zz_lt (zz_s8_0 h0) (by decide)) (zz_c1 (zz_s8_0 h0)) rfl rfl hl.1 rfl (Nat.le_of_ble_eq_true rfl) dX8_dip_5 (fun r_1 M_2 => ?_)
  refine zz_if_eq (tgt := 18) C dX8_dip_8 (by decide) (fun c_3 => ?_) (fun c_3 => ?_)
  · refine zz_aload_n C dX8_dip_18 rfl (lv_at hl 0 rfl) ?_
    refine zz_ldc (v := -1000000001) C (List.mem_of_getElem? (i := 2) rfl) dX8_dip_19 ?_
    refine zz_callVi (As := [.int (-1000000001 : Int32)]) (rest := []) C (m_X8_finding l E a0 (-1000000001 : Int32) h0 M_2) (cwV 1 C.1.2.2.2.2 gX8_dip_X8_finding rfl rfl rfl hdV_X8_finding ⟨Nat.le_of_ble_eq_true rfl, Nat.le_of_ble_eq_true rfl⟩) (zz_lt h0 (by decide)) (zz_c8 h0) rfl rfl hl.1 rfl (Nat.le_of_ble_eq_true rfl) dX8_dip_21 (fun r_4 M_5 => ?_)
    exact zz_iret C hr dX8_dip_24
  · refine zz_iload_n C dX8_dip_11 rfl (lv_at hl 2 rfl) ?_
    refine zz_callSi (As := [.int x2]) (rest := []) C (m_X8_isVat l E x2  M_2) (va_cwS 1 C.1.2.2.2.2 gX8_dip_X8_isVat rfl rfl rfl hdS_X8_isVat ⟨Nat.le_of_ble_eq_true rfl, Nat.le_of_ble_eq_true rfl⟩) rfl hl.1 rfl (Nat.le_of_ble_eq_true rfl) dX8_dip_12 (fun r_6 M_7 => ?_)
    refine zz_if_ne (tgt := 25) C dX8_dip_15 (by decide) (fun c_8 => ?_) (fun c_8 => ?_)
    · refine zz_aload_n C dX8_dip_18 rfl (lv_at hl 0 rfl) ?_
      refine zz_ldc (v := -1000000001) C (List.mem_of_getElem? (i := 2) rfl) dX8_dip_19 ?_
      refine zz_callVi (As := [.int (-1000000001 : Int32)]) (rest := []) C (m_X8_finding l E a0 (-1000000001 : Int32) h0 M_7) (cwV 1 C.1.2.2.2.2 gX8_dip_X8_finding rfl rfl rfl hdV_X8_finding ⟨Nat.le_of_ble_eq_true rfl, Nat.le_of_ble_eq_true rfl⟩) (zz_lt h0 (by decide)) (zz_c8 h0) rfl rfl hl.1 rfl (Nat.le_of_ble_eq_true rfl) dX8_dip_21 (fun r_19 M_20 => ?_)
      exact zz_iret C hr dX8_dip_24
    · refine zz_aload_n C dX8_dip_25 rfl (lv_at hl 0 rfl) ?_
      refine zz_get C (zz_lt h0 (by decide)) (zz_c8 h0) rfl in_X8_dip_X8 0 (by decide) (List.mem_of_getElem? (i := 1) rfl) rfl dX8_dip_26 ?_
      refine zz_get C (zz_lt (zz_s8_0 h0) (by decide)) (zz_c1 (zz_s8_0 h0)) rfl in_X8_dip_X1 1 (by decide) (List.mem_of_getElem? (i := 3) rfl) rfl dX8_dip_29 ?_
      refine zz_iload_n C dX8_dip_32 rfl (lv_at hl 1 rfl) ?_
      refine zz_aald (t := 2) (g := fun i => (1 + 7) + 1 + 2 * i) C (zz_lt (zz_s1_1 (zz_s8_0 h0)) (by decide)) (zz_c18 (zz_s1_1 (zz_s8_0 h0))) rfl dX8_dip_33 (fun b_9 => ?_)
      refine zz_astore_n (lv' := [(3, .ref (E.1 + ((1 + 7) + 1 + 2 * zz_n x1))), (0, .ref (E.1 + a0)), (1, .int x1), (2, .int x2)]) C dX8_dip_34 rfl hl (by decide) rfl (fun ls hl => ?_)
      refine zz_aload_n C dX8_dip_35 rfl (lv_at hl 0 rfl) ?_
      refine zz_callVi (As := []) (rest := []) C (m_X0_isThick l E ((1 + 7) + 1 + 2 * zz_n x1) (zz_e18 (zz_s1_1 (zz_s8_0 h0)) b_9) M_7) (cwV 0 C.1.2.2.2.2 gX8_dip_X0_isThick rfl rfl rfl hdV_X0_isThick ⟨Nat.le_of_ble_eq_true rfl, Nat.le_of_ble_eq_true rfl⟩) (zz_lt (zz_e18 (zz_s1_1 (zz_s8_0 h0)) b_9) (by decide)) (zz_c0 (zz_e18 (zz_s1_1 (zz_s8_0 h0)) b_9)) rfl rfl hl.1 rfl (Nat.le_of_ble_eq_true rfl) dX8_dip_36 (fun r_10 M_11 => ?_)
      refine zz_if_eq (tgt := 49) C dX8_dip_39 (by decide) (fun c_12 => ?_) (fun c_12 => ?_)
      · refine zz_aload_n C dX8_dip_49 rfl (lv_at hl 0 rfl) ?_
        refine zz_aload_n C dX8_dip_50 rfl (lv_at hl 1 rfl) ?_
        refine zz_get C (zz_lt h0 (by decide)) (zz_c8 h0) rfl in_X8_dip_X8 0 (by decide) (List.mem_of_getElem? (i := 1) rfl) rfl dX8_dip_51 ?_
        refine zz_get C (zz_lt (zz_s8_0 h0) (by decide)) (zz_c1 (zz_s8_0 h0)) rfl in_X8_dip_X1 0 (by decide) (List.mem_of_getElem? (i := 5) rfl) rfl dX8_dip_54 ?_
        refine zz_get C (zz_lt (zz_s1_0 (zz_s8_0 h0)) (by decide)) (zz_c7 (zz_s1_0 (zz_s8_0 h0))) rfl in_X8_dip_X7 0 (by decide) (List.mem_of_getElem? (i := 6) rfl) rfl dX8_dip_57 ?_
        refine zz_iload_n C dX8_dip_60 rfl (lv_at hl 3 rfl) ?_
        refine zz_aald (t := 4) (g := fun i => ((1 + 1) + 1) + 1 + i) C (zz_lt (zz_s7_0 (zz_s1_0 (zz_s8_0 h0))) (by decide)) (zz_c21 (zz_s7_0 (zz_s1_0 (zz_s8_0 h0)))) rfl dX8_dip_61 (fun b_13 => ?_)
        refine zz_callVv (As := [.ref (E.1 + (((1 + 1) + 1) + 1 + zz_n x2))]) (rest := []) C (m_X0_dipInto l E ((1 + 7) + 1 + 2 * zz_n x1) (((1 + 1) + 1) + 1 + zz_n x2) (zz_e18 (zz_s1_1 (zz_s8_0 h0)) b_9) (zz_e21 (zz_s7_0 (zz_s1_0 (zz_s8_0 h0))) b_13) M_11) (cwV 1 C.1.2.2.2.2 gX8_dip_X0_dipInto rfl rfl rfl hdV_X0_dipInto ⟨Nat.le_of_ble_eq_true rfl, Nat.le_of_ble_eq_true rfl⟩) (zz_lt (zz_e18 (zz_s1_1 (zz_s8_0 h0)) b_9) (by decide)) (zz_c0 (zz_e18 (zz_s1_1 (zz_s8_0 h0)) b_9)) rfl rfl hl.1 rfl (Nat.le_of_ble_eq_true rfl) dX8_dip_62 (fun _ M_14 => ?_)
        refine zz_aload_n C dX8_dip_65 rfl (lv_at hl 0 rfl) ?_
        refine zz_callVi (As := []) (rest := []) C (m_X0_grams l E ((1 + 7) + 1 + 2 * zz_n x1) (zz_e18 (zz_s1_1 (zz_s8_0 h0)) b_9) M_14) (cwV 0 C.1.2.2.2.2 gX8_dip_X0_grams rfl rfl rfl hdV_X0_grams ⟨Nat.le_of_ble_eq_true rfl, Nat.le_of_ble_eq_true rfl⟩) (zz_lt (zz_e18 (zz_s1_1 (zz_s8_0 h0)) b_9) (by decide)) (zz_c0 (zz_e18 (zz_s1_1 (zz_s8_0 h0)) b_9)) rfl rfl hl.1 rfl (Nat.le_of_ble_eq_true rfl) dX8_dip_66 (fun r_15 M_16 => ?_)
        exact zz_iret C hr dX8_dip_69
      · refine zz_aload_n C dX8_dip_42 rfl (lv_at hl 1 rfl) ?_
        refine zz_ldc (v := -1000000005) C (List.mem_of_getElem? (i := 4) rfl) dX8_dip_43 ?_
        refine zz_callVi (As := [.int (-1000000005 : Int32)]) (rest := []) C (m_X8_finding l E a0 (-1000000005 : Int32) h0 M_11) (cwV 1 C.1.2.2.2.2 gX8_dip_X8_finding rfl rfl rfl hdV_X8_finding ⟨Nat.le_of_ble_eq_true rfl, Nat.le_of_ble_eq_true rfl⟩) (zz_lt h0 (by decide)) (zz_c8 h0) rfl rfl hl.1 rfl (Nat.le_of_ble_eq_true rfl) dX8_dip_45 (fun r_17 M_18 => ?_)
        exact zz_iret C hr dX8_dip_48
-- X8_melt ('X8', 'melt', '(II)I')
theorem in_X8_melt_X1 : ∀ w ∈ u_ws RX1 TX1 3, w ∈ wsX8_melt := fun _ h => List.mem_cons_of_mem _ (List.mem_append_left _ (List.mem_append_left _ (List.mem_append_left _ (List.mem_append_right _ h))))
theorem in_X8_melt_X7 : ∀ w ∈ u_ws RX7 TX7 4, w ∈ wsX8_melt := fun _ h => List.mem_cons_of_mem _ (List.mem_append_left _ (List.mem_append_left _ (List.mem_append_right _ h)))
theorem in_X8_melt_X8 : ∀ w ∈ u_ws RX8 TX8 11, w ∈ wsX8_melt := fun _ h => List.mem_cons_of_mem _ (List.mem_append_left _ (List.mem_append_left _ (List.mem_append_left _ (List.mem_append_left _ (List.mem_append_right _ h)))))
def f_X8_melt (a0 : Nat) (x1 : Int32) (x2 : Int32) (M : zz_M) : Option (Int32 × zz_M) := zz_bd (f_X1_has 1 x1 M) (fun r_1 M_2 => (if r_1 = 0 then zz_bd (f_X8_finding a0 (-1000000001 : Int32) M_2) (fun r_4 M_5 => some (r_4, M_5)) else zz_bd (f_X8_isVat x2 M_2) (fun r_6 M_7 => (if r_6 = 0 then zz_bd (f_X8_finding a0 (-1000000001 : Int32) M_7) (fun r_15 M_16 => some (r_15, M_16)) else (if zz_in x1 10 = true then zz_bd (f_X0_grams ((1 + 7) + 1 + 2 * zz_n x1) M_7) (fun r_10 M_11 => (if zz_in x2 4 = true then zz_bd (f_X6_pourIn (((1 + 1) + 1) + 1 + zz_n x2) r_10 M_11) (fun _ M_13 => zz_bd (f_X0_strip ((1 + 7) + 1 + 2 * zz_n x1) M_13) (fun _ M_14 => some (r_10, M_14))) else none)) else none)))))
set_option maxRecDepth 100000 in
set_option maxHeartbeats 4000000 in
theorem m_X8_melt (l : Launch) (E : zz_E) (a0 : Nat) (x1 : Int32) (x2 : Int32) (h0 : zz_sh a0 = 8) (M : zz_M) : zz_Met (zz_pi E) l yX8_melt wsX8_melt 3 E [.ref (E.1 + a0), .int x1, .int x2] M (f_X8_melt a0 x1 x2 M) := by
  refine zz_met (cc := cX8_melt) (nL := 5) (ret := (some .int)) (by decide) rfl (Nat.le_of_ble_eq_true rfl) ?_
  intro p e s m below meth c C hr ls hl
  have C : zz_C E RX8 cX8_melt 5 wsX8_melt p s m [.ref (E.1 + a0), .int x1, .int x2].toArray meth c := C
  have hl : lv_has ls 5 [(0, .ref (E.1 + a0)), (1, .int x1), (2, .int x2)] := hl
  unfold f_X8_melt
  refine zz_aload_n C dX8_melt_0 rfl (lv_at hl 0 rfl) ?_
  refine zz_get C (zz_lt h0 (by decide)) (zz_c8 h0) rfl in_X8_melt_X8 0 (by decide) (List.mem_of_getElem? (i := 1) rfl) rfl dX8_melt_1 ?_
  refine zz_iload_n C dX8_melt_4 rfl (lv_at hl 1 rfl) ?_
  refine zz_callVi (As := [.int x1]) (rest := []) C (m_X1_has l E 1 x1 (zz_s8_0 h0) M) (cwV 1 C.1.2.2.2.2 gX8_melt_X1_has rfl rfl rfl hdV_X1_has ⟨Nat.le_of_ble_eq_true rfl, Nat.le_of_ble_eq_true rfl⟩) (zz_lt (zz_s8_0 h0) (by decide)) (zz_c1 (zz_s8_0 h0)) rfl rfl hl.1 rfl (Nat.le_of_ble_eq_true rfl) dX8_melt_5 (fun r_1 M_2 => ?_)
  refine zz_if_eq (tgt := 18) C dX8_melt_8 (by decide) (fun c_3 => ?_) (fun c_3 => ?_)
  · refine zz_aload_n C dX8_melt_18 rfl (lv_at hl 0 rfl) ?_
    refine zz_ldc (v := -1000000001) C (List.mem_of_getElem? (i := 2) rfl) dX8_melt_19 ?_
    refine zz_callVi (As := [.int (-1000000001 : Int32)]) (rest := []) C (m_X8_finding l E a0 (-1000000001 : Int32) h0 M_2) (cwV 1 C.1.2.2.2.2 gX8_melt_X8_finding rfl rfl rfl hdV_X8_finding ⟨Nat.le_of_ble_eq_true rfl, Nat.le_of_ble_eq_true rfl⟩) (zz_lt h0 (by decide)) (zz_c8 h0) rfl rfl hl.1 rfl (Nat.le_of_ble_eq_true rfl) dX8_melt_21 (fun r_4 M_5 => ?_)
    exact zz_iret C hr dX8_melt_24
  · refine zz_iload_n C dX8_melt_11 rfl (lv_at hl 2 rfl) ?_
    refine zz_callSi (As := [.int x2]) (rest := []) C (m_X8_isVat l E x2  M_2) (va_cwS 1 C.1.2.2.2.2 gX8_melt_X8_isVat rfl rfl rfl hdS_X8_isVat ⟨Nat.le_of_ble_eq_true rfl, Nat.le_of_ble_eq_true rfl⟩) rfl hl.1 rfl (Nat.le_of_ble_eq_true rfl) dX8_melt_12 (fun r_6 M_7 => ?_)
    refine zz_if_ne (tgt := 25) C dX8_melt_15 (by decide) (fun c_8 => ?_) (fun c_8 => ?_)
    · refine zz_aload_n C dX8_melt_18 rfl (lv_at hl 0 rfl) ?_
      refine zz_ldc (v := -1000000001) C (List.mem_of_getElem? (i := 2) rfl) dX8_melt_19 ?_
      refine zz_callVi (As := [.int (-1000000001 : Int32)]) (rest := []) C (m_X8_finding l E a0 (-1000000001 : Int32) h0 M_7) (cwV 1 C.1.2.2.2.2 gX8_melt_X8_finding rfl rfl rfl hdV_X8_finding ⟨Nat.le_of_ble_eq_true rfl, Nat.le_of_ble_eq_true rfl⟩) (zz_lt h0 (by decide)) (zz_c8 h0) rfl rfl hl.1 rfl (Nat.le_of_ble_eq_true rfl) dX8_melt_21 (fun r_15 M_16 => ?_)
      exact zz_iret C hr dX8_melt_24
    · refine zz_aload_n C dX8_melt_25 rfl (lv_at hl 0 rfl) ?_
      refine zz_get C (zz_lt h0 (by decide)) (zz_c8 h0) rfl in_X8_melt_X8 0 (by decide) (List.mem_of_getElem? (i := 1) rfl) rfl dX8_melt_26 ?_
      refine zz_get C (zz_lt (zz_s8_0 h0) (by decide)) (zz_c1 (zz_s8_0 h0)) rfl in_X8_melt_X1 1 (by decide) (List.mem_of_getElem? (i := 3) rfl) rfl dX8_melt_29 ?_
      refine zz_iload_n C dX8_melt_32 rfl (lv_at hl 1 rfl) ?_
      refine zz_aald (t := 2) (g := fun i => (1 + 7) + 1 + 2 * i) C (zz_lt (zz_s1_1 (zz_s8_0 h0)) (by decide)) (zz_c18 (zz_s1_1 (zz_s8_0 h0))) rfl dX8_melt_33 (fun b_9 => ?_)
      refine zz_astore_n (lv' := [(3, .ref (E.1 + ((1 + 7) + 1 + 2 * zz_n x1))), (0, .ref (E.1 + a0)), (1, .int x1), (2, .int x2)]) C dX8_melt_34 rfl hl (by decide) rfl (fun ls hl => ?_)
      refine zz_aload_n C dX8_melt_35 rfl (lv_at hl 0 rfl) ?_
      refine zz_callVi (As := []) (rest := []) C (m_X0_grams l E ((1 + 7) + 1 + 2 * zz_n x1) (zz_e18 (zz_s1_1 (zz_s8_0 h0)) b_9) M_7) (cwV 0 C.1.2.2.2.2 gX8_melt_X0_grams rfl rfl rfl hdV_X0_grams ⟨Nat.le_of_ble_eq_true rfl, Nat.le_of_ble_eq_true rfl⟩) (zz_lt (zz_e18 (zz_s1_1 (zz_s8_0 h0)) b_9) (by decide)) (zz_c0 (zz_e18 (zz_s1_1 (zz_s8_0 h0)) b_9)) rfl rfl hl.1 rfl (Nat.le_of_ble_eq_true rfl) dX8_melt_36 (fun r_10 M_11 => ?_)
      refine zz_istored (lv' := [(4, .int r_10), (3, .ref (E.1 + ((1 + 7) + 1 + 2 * zz_n x1))), (0, .ref (E.1 + a0)), (1, .int x1), (2, .int x2)]) C dX8_melt_39 hl (by decide) rfl (fun ls hl => ?_)
      refine zz_aload_n C dX8_melt_41 rfl (lv_at hl 2 rfl) ?_
      refine zz_get C (zz_lt h0 (by decide)) (zz_c8 h0) rfl in_X8_melt_X8 0 (by decide) (List.mem_of_getElem? (i := 1) rfl) rfl dX8_melt_42 ?_
      refine zz_get C (zz_lt (zz_s8_0 h0) (by decide)) (zz_c1 (zz_s8_0 h0)) rfl in_X8_melt_X1 0 (by decide) (List.mem_of_getElem? (i := 4) rfl) rfl dX8_melt_45 ?_
      refine zz_get C (zz_lt (zz_s1_0 (zz_s8_0 h0)) (by decide)) (zz_c7 (zz_s1_0 (zz_s8_0 h0))) rfl in_X8_melt_X7 0 (by decide) (List.mem_of_getElem? (i := 5) rfl) rfl dX8_melt_48 ?_
      refine zz_iload_n C dX8_melt_51 rfl (lv_at hl 4 rfl) ?_
      refine zz_aald (t := 4) (g := fun i => ((1 + 1) + 1) + 1 + i) C (zz_lt (zz_s7_0 (zz_s1_0 (zz_s8_0 h0))) (by decide)) (zz_c21 (zz_s7_0 (zz_s1_0 (zz_s8_0 h0)))) rfl dX8_melt_52 (fun b_12 => ?_)
      refine zz_iload C dX8_melt_53 (lv_at hl 0 rfl) ?_
      refine zz_callVv (As := [.int r_10]) (rest := []) C (m_X6_pourIn l E (((1 + 1) + 1) + 1 + zz_n x2) r_10 (zz_e21 (zz_s7_0 (zz_s1_0 (zz_s8_0 h0))) b_12) M_11) (cwV 1 C.1.2.2.2.2 gX8_melt_X6_pourIn rfl rfl rfl hdV_X6_pourIn ⟨Nat.le_of_ble_eq_true rfl, Nat.le_of_ble_eq_true rfl⟩) (zz_lt (zz_e21 (zz_s7_0 (zz_s1_0 (zz_s8_0 h0))) b_12) (by decide)) (zz_c6 (zz_e21 (zz_s7_0 (zz_s1_0 (zz_s8_0 h0))) b_12)) rfl rfl hl.1 rfl (Nat.le_of_ble_eq_true rfl) dX8_melt_55 (fun _ M_13 => ?_)
      refine zz_aload_n C dX8_melt_58 rfl (lv_at hl 1 rfl) ?_
      refine zz_callVv (As := []) (rest := []) C (m_X0_strip l E ((1 + 7) + 1 + 2 * zz_n x1) (zz_e18 (zz_s1_1 (zz_s8_0 h0)) b_9) M_13) (cwV 0 C.1.2.2.2.2 gX8_melt_X0_strip rfl rfl rfl hdV_X0_strip ⟨Nat.le_of_ble_eq_true rfl, Nat.le_of_ble_eq_true rfl⟩) (zz_lt (zz_e18 (zz_s1_1 (zz_s8_0 h0)) b_9) (by decide)) (zz_c0 (zz_e18 (zz_s1_1 (zz_s8_0 h0)) b_9)) rfl rfl hl.1 rfl (Nat.le_of_ble_eq_true rfl) dX8_melt_59 (fun _ M_14 => ?_)
      refine zz_iload C dX8_melt_62 (lv_at hl 0 rfl) ?_
      exact zz_iret C hr dX8_melt_64
-- X8_burn ('X8', 'burn', '(II)I')
theorem in_X8_burn_X1 : ∀ w ∈ u_ws RX1 TX1 3, w ∈ wsX8_burn := fun _ h => List.mem_cons_of_mem _ (List.mem_append_left _ (List.mem_append_right _ h))
theorem in_X8_burn_X8 : ∀ w ∈ u_ws RX8 TX8 11, w ∈ wsX8_burn := fun _ h => List.mem_cons_of_mem _ (List.mem_append_left _ (List.mem_append_left _ (List.mem_append_right _ h)))
theorem hdV_X0_burnDown : yX0_burnDown.cls = RX0 ∧ yX0_burnDown.cls ≠ "java/lang/invoke/MethodHandle" ∧ yX0_burnDown.cls ≠ "java/lang/invoke/VarHandle" ∧ (parseMethodDescriptor yX0_burnDown.desc).map (fun d => d.parameters.length) = some 1 := by decide +kernel
def f_X8_burn (a0 : Nat) (x1 : Int32) (x2 : Int32) (M : zz_M) : Option (Int32 × zz_M) := zz_bd (f_X1_has 1 x1 M) (fun r_1 M_2 => (if r_1 = 0 then zz_bd (f_X8_finding a0 (-1000000001 : Int32) M_2) (fun r_4 M_5 => some (r_4, M_5)) else zz_bd (f_X8_within x2 (1 : Int32) (9999 : Int32) M_2) (fun r_6 M_7 => (if r_6 = 0 then zz_bd (f_X8_finding a0 (-1000000001 : Int32) M_7) (fun r_13 M_14 => some (r_13, M_14)) else (if zz_in x1 10 = true then zz_bd (f_X0_burnDown ((1 + 7) + 1 + 2 * zz_n x1) x2 M_7) (fun _ M_10 => zz_bd (f_X0_grams ((1 + 7) + 1 + 2 * zz_n x1) M_10) (fun r_11 M_12 => some (r_11, M_12))) else none)))))
set_option maxRecDepth 100000 in
set_option maxHeartbeats 4000000 in
theorem m_X8_burn (l : Launch) (E : zz_E) (a0 : Nat) (x1 : Int32) (x2 : Int32) (h0 : zz_sh a0 = 8) (M : zz_M) : zz_Met (zz_pi E) l yX8_burn wsX8_burn 3 E [.ref (E.1 + a0), .int x1, .int x2] M (f_X8_burn a0 x1 x2 M) := by
  refine zz_met (cc := cX8_burn) (nL := 4) (ret := (some .int)) (by decide) rfl (Nat.le_of_ble_eq_true rfl) ?_
  intro p e s m below meth c C hr ls hl
  have C : zz_C E RX8 cX8_burn 4 wsX8_burn p s m [.ref (E.1 + a0), .int x1, .int x2].toArray meth c := C
  have hl : lv_has ls 4 [(0, .ref (E.1 + a0)), (1, .int x1), (2, .int x2)] := hl
  unfold f_X8_burn
  refine zz_aload_n C dX8_burn_0 rfl (lv_at hl 0 rfl) ?_
  refine zz_get C (zz_lt h0 (by decide)) (zz_c8 h0) rfl in_X8_burn_X8 0 (by decide) (List.mem_of_getElem? (i := 1) rfl) rfl dX8_burn_1 ?_
  refine zz_iload_n C dX8_burn_4 rfl (lv_at hl 1 rfl) ?_
  refine zz_callVi (As := [.int x1]) (rest := []) C (m_X1_has l E 1 x1 (zz_s8_0 h0) M) (cwV 1 C.1.2.2.2.2 gX8_burn_X1_has rfl rfl rfl hdV_X1_has ⟨Nat.le_of_ble_eq_true rfl, Nat.le_of_ble_eq_true rfl⟩) (zz_lt (zz_s8_0 h0) (by decide)) (zz_c1 (zz_s8_0 h0)) rfl rfl hl.1 rfl (Nat.le_of_ble_eq_true rfl) dX8_burn_5 (fun r_1 M_2 => ?_)
  refine zz_if_eq (tgt := 22) C dX8_burn_8 (by decide) (fun c_3 => ?_) (fun c_3 => ?_)
  · refine zz_aload_n C dX8_burn_22 rfl (lv_at hl 0 rfl) ?_
    refine zz_ldc (v := -1000000001) C (List.mem_of_getElem? (i := 2) rfl) dX8_burn_23 ?_
    refine zz_callVi (As := [.int (-1000000001 : Int32)]) (rest := []) C (m_X8_finding l E a0 (-1000000001 : Int32) h0 M_2) (cwV 1 C.1.2.2.2.2 gX8_burn_X8_finding rfl rfl rfl hdV_X8_finding ⟨Nat.le_of_ble_eq_true rfl, Nat.le_of_ble_eq_true rfl⟩) (zz_lt h0 (by decide)) (zz_c8 h0) rfl rfl hl.1 rfl (Nat.le_of_ble_eq_true rfl) dX8_burn_25 (fun r_4 M_5 => ?_)
    exact zz_iret C hr dX8_burn_28
  · refine zz_iload_n C dX8_burn_11 rfl (lv_at hl 2 rfl) ?_
    refine zz_iconst (v := 1) C dX8_burn_12 (by decide) ?_
    refine zz_sipush (v := 9999) C dX8_burn_13 (by decide) ?_
    refine zz_callSi (As := [.int x2, .int (1 : Int32), .int (9999 : Int32)]) (rest := []) C (m_X8_within l E x2 (1 : Int32) (9999 : Int32)  M_2) (va_cwS 3 C.1.2.2.2.2 gX8_burn_X8_within rfl rfl rfl hdS_X8_within ⟨Nat.le_of_ble_eq_true rfl, Nat.le_of_ble_eq_true rfl⟩) rfl hl.1 rfl (Nat.le_of_ble_eq_true rfl) dX8_burn_16 (fun r_6 M_7 => ?_)
    refine zz_if_ne (tgt := 29) C dX8_burn_19 (by decide) (fun c_8 => ?_) (fun c_8 => ?_)
    · refine zz_aload_n C dX8_burn_22 rfl (lv_at hl 0 rfl) ?_
      refine zz_ldc (v := -1000000001) C (List.mem_of_getElem? (i := 2) rfl) dX8_burn_23 ?_
      refine zz_callVi (As := [.int (-1000000001 : Int32)]) (rest := []) C (m_X8_finding l E a0 (-1000000001 : Int32) h0 M_7) (cwV 1 C.1.2.2.2.2 gX8_burn_X8_finding rfl rfl rfl hdV_X8_finding ⟨Nat.le_of_ble_eq_true rfl, Nat.le_of_ble_eq_true rfl⟩) (zz_lt h0 (by decide)) (zz_c8 h0) rfl rfl hl.1 rfl (Nat.le_of_ble_eq_true rfl) dX8_burn_25 (fun r_13 M_14 => ?_)
      exact zz_iret C hr dX8_burn_28
    · refine zz_aload_n C dX8_burn_29 rfl (lv_at hl 0 rfl) ?_
      refine zz_get C (zz_lt h0 (by decide)) (zz_c8 h0) rfl in_X8_burn_X8 0 (by decide) (List.mem_of_getElem? (i := 1) rfl) rfl dX8_burn_30 ?_
      refine zz_get C (zz_lt (zz_s8_0 h0) (by decide)) (zz_c1 (zz_s8_0 h0)) rfl in_X8_burn_X1 1 (by decide) (List.mem_of_getElem? (i := 3) rfl) rfl dX8_burn_33 ?_
      refine zz_iload_n C dX8_burn_36 rfl (lv_at hl 1 rfl) ?_
      refine zz_aald (t := 2) (g := fun i => (1 + 7) + 1 + 2 * i) C (zz_lt (zz_s1_1 (zz_s8_0 h0)) (by decide)) (zz_c18 (zz_s1_1 (zz_s8_0 h0))) rfl dX8_burn_37 (fun b_9 => ?_)
      refine zz_astore_n (lv' := [(3, .ref (E.1 + ((1 + 7) + 1 + 2 * zz_n x1))), (0, .ref (E.1 + a0)), (1, .int x1), (2, .int x2)]) C dX8_burn_38 rfl hl (by decide) rfl (fun ls hl => ?_)
      refine zz_aload_n C dX8_burn_39 rfl (lv_at hl 0 rfl) ?_
      refine zz_iload_n C dX8_burn_40 rfl (lv_at hl 3 rfl) ?_
      refine zz_callVv (As := [.int x2]) (rest := []) C (m_X0_burnDown l E ((1 + 7) + 1 + 2 * zz_n x1) x2 (zz_e18 (zz_s1_1 (zz_s8_0 h0)) b_9) M_7) (cwV 1 C.1.2.2.2.2 gX8_burn_X0_burnDown rfl rfl rfl hdV_X0_burnDown ⟨Nat.le_of_ble_eq_true rfl, Nat.le_of_ble_eq_true rfl⟩) (zz_lt (zz_e18 (zz_s1_1 (zz_s8_0 h0)) b_9) (by decide)) (zz_c0 (zz_e18 (zz_s1_1 (zz_s8_0 h0)) b_9)) rfl rfl hl.1 rfl (Nat.le_of_ble_eq_true rfl) dX8_burn_41 (fun _ M_10 => ?_)
      refine zz_aload_n C dX8_burn_44 rfl (lv_at hl 0 rfl) ?_
      refine zz_callVi (As := []) (rest := []) C (m_X0_grams l E ((1 + 7) + 1 + 2 * zz_n x1) (zz_e18 (zz_s1_1 (zz_s8_0 h0)) b_9) M_10) (cwV 0 C.1.2.2.2.2 gX8_burn_X0_grams rfl rfl rfl hdV_X0_grams ⟨Nat.le_of_ble_eq_true rfl, Nat.le_of_ble_eq_true rfl⟩) (zz_lt (zz_e18 (zz_s1_1 (zz_s8_0 h0)) b_9) (by decide)) (zz_c0 (zz_e18 (zz_s1_1 (zz_s8_0 h0)) b_9)) rfl rfl hl.1 rfl (Nat.le_of_ble_eq_true rfl) dX8_burn_45 (fun r_11 M_12 => ?_)
      exact zz_iret C hr dX8_burn_48
-- X8_hours ('X8', 'hours', '(I)I')
theorem in_X8_hours_X1 : ∀ w ∈ u_ws RX1 TX1 3, w ∈ wsX8_hours := fun _ h => List.mem_cons_of_mem _ (List.mem_append_left _ (List.mem_append_left _ (List.mem_append_right _ h)))
theorem in_X8_hours_X7 : ∀ w ∈ u_ws RX7 TX7 4, w ∈ wsX8_hours := fun _ h => List.mem_cons_of_mem _ (List.mem_append_left _ (List.mem_append_right _ h))
theorem in_X8_hours_X8 : ∀ w ∈ u_ws RX8 TX8 11, w ∈ wsX8_hours := fun _ h => List.mem_cons_of_mem _ (List.mem_append_left _ (List.mem_append_left _ (List.mem_append_left _ (List.mem_append_right _ h))))
theorem hdV_X7_pass : yX7_pass.cls = RX7 ∧ yX7_pass.cls ≠ "java/lang/invoke/MethodHandle" ∧ yX7_pass.cls ≠ "java/lang/invoke/VarHandle" ∧ (parseMethodDescriptor yX7_pass.desc).map (fun d => d.parameters.length) = some 1 := by decide +kernel
def f_X8_hours (a0 : Nat) (x1 : Int32) (M : zz_M) : Option (Int32 × zz_M) := zz_bd (f_X8_within x1 (1 : Int32) (200 : Int32) M) (fun r_1 M_2 => (if r_1 = 0 then zz_bd (f_X8_finding a0 (-1000000001 : Int32) M_2) (fun r_9 M_10 => some (r_9, M_10)) else (if ((zz_i M_2 (1 + 1) 3) + x1) ≤ (9999 : Int32) then zz_w (zz_i M_2 (1 + 1) 1) (fun x2_5 => zz_bd (f_X7_pass (1 + 1) x1 M_2) (fun _ M_6 => some ((x2_5 - (zz_i M_6 (1 + 1) 1)), M_6))) else zz_bd (f_X8_finding a0 (-1000000005 : Int32) M_2) (fun r_7 M_8 => some (r_7, M_8)))))
set_option maxRecDepth 100000 in
set_option maxHeartbeats 4000000 in
theorem m_X8_hours (l : Launch) (E : zz_E) (a0 : Nat) (x1 : Int32) (h0 : zz_sh a0 = 8) (M : zz_M) : zz_Met (zz_pi E) l yX8_hours wsX8_hours 4 E [.ref (E.1 + a0), .int x1] M (f_X8_hours a0 x1 M) := by
  refine zz_met (cc := cX8_hours) (nL := 3) (ret := (some .int)) (by decide) rfl (Nat.le_of_ble_eq_true rfl) ?_
  intro p e s m below meth c C hr ls hl
  have C : zz_C E RX8 cX8_hours 3 wsX8_hours p s m [.ref (E.1 + a0), .int x1].toArray meth c := C
  have hl : lv_has ls 3 [(0, .ref (E.1 + a0)), (1, .int x1)] := hl
  unfold f_X8_hours
  refine zz_iload_n C dX8_hours_0 rfl (lv_at hl 1 rfl) ?_
  refine zz_iconst (v := 1) C dX8_hours_1 (by decide) ?_
  refine zz_sipush (v := 200) C dX8_hours_2 (by decide) ?_
  refine zz_callSi (As := [.int x1, .int (1 : Int32), .int (200 : Int32)]) (rest := []) C (m_X8_within l E x1 (1 : Int32) (200 : Int32)  M) (va_cwS 3 C.1.2.2.2.2 gX8_hours_X8_within rfl rfl rfl hdS_X8_within ⟨Nat.le_of_ble_eq_true rfl, Nat.le_of_ble_eq_true rfl⟩) rfl hl.1 rfl (Nat.le_of_ble_eq_true rfl) dX8_hours_5 (fun r_1 M_2 => ?_)
  refine zz_if_ne (tgt := 18) C dX8_hours_8 (by decide) (fun c_3 => ?_) (fun c_3 => ?_)
  · refine zz_aload_n C dX8_hours_11 rfl (lv_at hl 0 rfl) ?_
    refine zz_ldc (v := -1000000001) C (List.mem_of_getElem? (i := 1) rfl) dX8_hours_12 ?_
    refine zz_callVi (As := [.int (-1000000001 : Int32)]) (rest := []) C (m_X8_finding l E a0 (-1000000001 : Int32) h0 M_2) (cwV 1 C.1.2.2.2.2 gX8_hours_X8_finding rfl rfl rfl hdV_X8_finding ⟨Nat.le_of_ble_eq_true rfl, Nat.le_of_ble_eq_true rfl⟩) (zz_lt h0 (by decide)) (zz_c8 h0) rfl rfl hl.1 rfl (Nat.le_of_ble_eq_true rfl) dX8_hours_14 (fun r_9 M_10 => ?_)
    exact zz_iret C hr dX8_hours_17
  · refine zz_aload_n C dX8_hours_18 rfl (lv_at hl 0 rfl) ?_
    refine zz_get C (zz_lt h0 (by decide)) (zz_c8 h0) rfl in_X8_hours_X8 0 (by decide) (List.mem_of_getElem? (i := 2) rfl) rfl dX8_hours_19 ?_
    refine zz_get C (zz_lt (zz_s8_0 h0) (by decide)) (zz_c1 (zz_s8_0 h0)) rfl in_X8_hours_X1 0 (by decide) (List.mem_of_getElem? (i := 3) rfl) rfl dX8_hours_22 ?_
    refine zz_get C (zz_lt (zz_s1_0 (zz_s8_0 h0)) (by decide)) (zz_c7 (zz_s1_0 (zz_s8_0 h0))) rfl in_X8_hours_X7 3 (by decide) (List.mem_of_getElem? (i := 4) rfl) rfl dX8_hours_25 ?_
    refine zz_iload_n C dX8_hours_28 rfl (lv_at hl 1 rfl) ?_
    refine zz_iadd C dX8_hours_29 ?_
    refine zz_sipush (v := 9999) C dX8_hours_30 (by decide) ?_
    refine zz_icmp_le (tgt := 43) C dX8_hours_33 (by decide) (fun c_4 => ?_) (fun c_4 => ?_)
    · refine zz_aload_n C dX8_hours_43 rfl (lv_at hl 0 rfl) ?_
      refine zz_get C (zz_lt h0 (by decide)) (zz_c8 h0) rfl in_X8_hours_X8 0 (by decide) (List.mem_of_getElem? (i := 2) rfl) rfl dX8_hours_44 ?_
      refine zz_get C (zz_lt (zz_s8_0 h0) (by decide)) (zz_c1 (zz_s8_0 h0)) rfl in_X8_hours_X1 0 (by decide) (List.mem_of_getElem? (i := 3) rfl) rfl dX8_hours_47 ?_
      refine zz_get C (zz_lt (zz_s1_0 (zz_s8_0 h0)) (by decide)) (zz_c7 (zz_s1_0 (zz_s8_0 h0))) rfl in_X8_hours_X7 1 (by decide) (List.mem_of_getElem? (i := 6) rfl) rfl dX8_hours_50 ?_
      refine zz_istore_n C (fun x2_5 => [(2, .int x2_5), (0, .ref (E.1 + a0)), (1, .int x1)]) dX8_hours_53 rfl hl (by decide) (fun _ => rfl) (fun x2_5 ls hl => ?_)
      refine zz_aload_n C dX8_hours_54 rfl (lv_at hl 1 rfl) ?_
      refine zz_get C (zz_lt h0 (by decide)) (zz_c8 h0) rfl in_X8_hours_X8 0 (by decide) (List.mem_of_getElem? (i := 2) rfl) rfl dX8_hours_55 ?_
      refine zz_get C (zz_lt (zz_s8_0 h0) (by decide)) (zz_c1 (zz_s8_0 h0)) rfl in_X8_hours_X1 0 (by decide) (List.mem_of_getElem? (i := 3) rfl) rfl dX8_hours_58 ?_
      refine zz_iload_n C dX8_hours_61 rfl (lv_at hl 2 rfl) ?_
      refine zz_callVv (As := [.int x1]) (rest := []) C (m_X7_pass l E (1 + 1) x1 (zz_s1_0 (zz_s8_0 h0)) M_2) (cwV 1 C.1.2.2.2.2 gX8_hours_X7_pass rfl rfl rfl hdV_X7_pass ⟨Nat.le_of_ble_eq_true rfl, Nat.le_of_ble_eq_true rfl⟩) (zz_lt (zz_s1_0 (zz_s8_0 h0)) (by decide)) (zz_c7 (zz_s1_0 (zz_s8_0 h0))) rfl rfl hl.1 rfl (Nat.le_of_ble_eq_true rfl) dX8_hours_62 (fun _ M_6 => ?_)
      refine zz_iload_n C dX8_hours_65 rfl (lv_at hl 0 rfl) ?_
      refine zz_aload_n C dX8_hours_66 rfl (lv_at hl 1 rfl) ?_
      refine zz_get C (zz_lt h0 (by decide)) (zz_c8 h0) rfl in_X8_hours_X8 0 (by decide) (List.mem_of_getElem? (i := 2) rfl) rfl dX8_hours_67 ?_
      refine zz_get C (zz_lt (zz_s8_0 h0) (by decide)) (zz_c1 (zz_s8_0 h0)) rfl in_X8_hours_X1 0 (by decide) (List.mem_of_getElem? (i := 3) rfl) rfl dX8_hours_70 ?_
      refine zz_get C (zz_lt (zz_s1_0 (zz_s8_0 h0)) (by decide)) (zz_c7 (zz_s1_0 (zz_s8_0 h0))) rfl in_X8_hours_X7 1 (by decide) (List.mem_of_getElem? (i := 6) rfl) rfl dX8_hours_73 ?_
      refine zz_isub C dX8_hours_76 ?_
      exact zz_iret C hr dX8_hours_77
    · refine zz_aload_n C dX8_hours_36 rfl (lv_at hl 0 rfl) ?_
      refine zz_ldc (v := -1000000005) C (List.mem_of_getElem? (i := 5) rfl) dX8_hours_37 ?_
      refine zz_callVi (As := [.int (-1000000005 : Int32)]) (rest := []) C (m_X8_finding l E a0 (-1000000005 : Int32) h0 M_2) (cwV 1 C.1.2.2.2.2 gX8_hours_X8_finding rfl rfl rfl hdV_X8_finding ⟨Nat.le_of_ble_eq_true rfl, Nat.le_of_ble_eq_true rfl⟩) (zz_lt h0 (by decide)) (zz_c8 h0) rfl rfl hl.1 rfl (Nat.le_of_ble_eq_true rfl) dX8_hours_39 (fun r_7 M_8 => ?_)
      exact zz_iret C hr dX8_hours_42
-- X8_now ('X8', 'now', '(I)I')
theorem in_X8_now_X1 : ∀ w ∈ u_ws RX1 TX1 3, w ∈ wsX8_now := fun _ h => List.mem_cons_of_mem _ (List.mem_append_left _ (List.mem_append_left _ (List.mem_append_left _ (List.mem_append_right _ h))))
theorem in_X8_now_X7 : ∀ w ∈ u_ws RX7 TX7 4, w ∈ wsX8_now := fun _ h => List.mem_cons_of_mem _ (List.mem_append_left _ (List.mem_append_left _ (List.mem_append_right _ h)))
theorem in_X8_now_X8 : ∀ w ∈ u_ws RX8 TX8 11, w ∈ wsX8_now := fun _ h => List.mem_cons_of_mem _ (List.mem_append_left _ (List.mem_append_left _ (List.mem_append_left _ (List.mem_append_left _ (List.mem_append_right _ h)))))
theorem hdV_X1_candleGrams : yX1_candleGrams.cls = RX1 ∧ yX1_candleGrams.cls ≠ "java/lang/invoke/MethodHandle" ∧ yX1_candleGrams.cls ≠ "java/lang/invoke/VarHandle" ∧ (parseMethodDescriptor yX1_candleGrams.desc).map (fun d => d.parameters.length) = some 0 := by decide +kernel
theorem hdV_X7_grams : yX7_grams.cls = RX7 ∧ yX7_grams.cls ≠ "java/lang/invoke/MethodHandle" ∧ yX7_grams.cls ≠ "java/lang/invoke/VarHandle" ∧ (parseMethodDescriptor yX7_grams.desc).map (fun d => d.parameters.length) = some 0 := by decide +kernel
def f_X8_now (a0 : Nat) (x1 : Int32) (M : zz_M) : Option (Int32 × zz_M) := (if x1 = (0 : Int32) then some ((zz_i M (1 + 1) 3), M) else (if x1 = (1 : Int32) then some ((zz_i M (1 + 1) 1), M) else (if x1 = (2 : Int32) then some ((zz_i M (1 + 1) 2), M) else (if x1 = (3 : Int32) then zz_bd (f_X7_grams (1 + 1) M) (fun r_5 M_6 => some (r_5, M_6)) else (if x1 = (4 : Int32) then zz_bd (f_X1_candleGrams 1 M) (fun r_8 M_9 => some (r_8, M_9)) else zz_bd (f_X8_finding a0 (-1000000001 : Int32) M) (fun r_10 M_11 => some (r_10, M_11)))))))
set_option maxRecDepth 100000 in
set_option maxHeartbeats 4000000 in
theorem m_X8_now (l : Launch) (E : zz_E) (a0 : Nat) (x1 : Int32) (h0 : zz_sh a0 = 8) (M : zz_M) : zz_Met (zz_pi E) l yX8_now wsX8_now 3 E [.ref (E.1 + a0), .int x1] M (f_X8_now a0 x1 M) := by
  refine zz_met (cc := cX8_now) (nL := 2) (ret := (some .int)) (by decide) rfl (Nat.le_of_ble_eq_true rfl) ?_
  intro p e s m below meth c C hr ls hl
  have C : zz_C E RX8 cX8_now 2 wsX8_now p s m [.ref (E.1 + a0), .int x1].toArray meth c := C
  have hl : lv_has ls 2 [(0, .ref (E.1 + a0)), (1, .int x1)] := hl
  unfold f_X8_now
  refine zz_iload_n C dX8_now_0 rfl (lv_at hl 1 rfl) ?_
  refine zz_ite (fun c_1 => ?_) (fun c_1 => ?_)
  · refine zz_tabIn (tgt := 36) C dX8_now_1 (by rw [c_1]; decide) (by rw [c_1]; decide) (by rw [c_1]; rfl) (by decide) ?_
    refine zz_aload_n C dX8_now_36 rfl (lv_at hl 0 rfl) ?_
    refine zz_get C (zz_lt h0 (by decide)) (zz_c8 h0) rfl in_X8_now_X8 0 (by decide) (List.mem_of_getElem? (i := 1) rfl) rfl dX8_now_37 ?_
    refine zz_get C (zz_lt (zz_s8_0 h0) (by decide)) (zz_c1 (zz_s8_0 h0)) rfl in_X8_now_X1 0 (by decide) (List.mem_of_getElem? (i := 2) rfl) rfl dX8_now_40 ?_
    refine zz_get C (zz_lt (zz_s1_0 (zz_s8_0 h0)) (by decide)) (zz_c7 (zz_s1_0 (zz_s8_0 h0))) rfl in_X8_now_X7 3 (by decide) (List.mem_of_getElem? (i := 3) rfl) rfl dX8_now_43 ?_
    exact zz_iret C hr dX8_now_46
  · refine zz_ite (fun c_2 => ?_) (fun c_2 => ?_)
    · refine zz_tabIn (tgt := 47) C dX8_now_1 (by rw [c_2]; decide) (by rw [c_2]; decide) (by rw [c_2]; rfl) (by decide) ?_
      refine zz_aload_n C dX8_now_47 rfl (lv_at hl 0 rfl) ?_
      refine zz_get C (zz_lt h0 (by decide)) (zz_c8 h0) rfl in_X8_now_X8 0 (by decide) (List.mem_of_getElem? (i := 1) rfl) rfl dX8_now_48 ?_
      refine zz_get C (zz_lt (zz_s8_0 h0) (by decide)) (zz_c1 (zz_s8_0 h0)) rfl in_X8_now_X1 0 (by decide) (List.mem_of_getElem? (i := 2) rfl) rfl dX8_now_51 ?_
      refine zz_get C (zz_lt (zz_s1_0 (zz_s8_0 h0)) (by decide)) (zz_c7 (zz_s1_0 (zz_s8_0 h0))) rfl in_X8_now_X7 1 (by decide) (List.mem_of_getElem? (i := 4) rfl) rfl dX8_now_54 ?_
      exact zz_iret C hr dX8_now_57
    · refine zz_ite (fun c_3 => ?_) (fun c_3 => ?_)
      · refine zz_tabIn (tgt := 58) C dX8_now_1 (by rw [c_3]; decide) (by rw [c_3]; decide) (by rw [c_3]; rfl) (by decide) ?_
        refine zz_aload_n C dX8_now_58 rfl (lv_at hl 0 rfl) ?_
        refine zz_get C (zz_lt h0 (by decide)) (zz_c8 h0) rfl in_X8_now_X8 0 (by decide) (List.mem_of_getElem? (i := 1) rfl) rfl dX8_now_59 ?_
        refine zz_get C (zz_lt (zz_s8_0 h0) (by decide)) (zz_c1 (zz_s8_0 h0)) rfl in_X8_now_X1 0 (by decide) (List.mem_of_getElem? (i := 2) rfl) rfl dX8_now_62 ?_
        refine zz_get C (zz_lt (zz_s1_0 (zz_s8_0 h0)) (by decide)) (zz_c7 (zz_s1_0 (zz_s8_0 h0))) rfl in_X8_now_X7 2 (by decide) (List.mem_of_getElem? (i := 5) rfl) rfl dX8_now_65 ?_
        exact zz_iret C hr dX8_now_68
      · refine zz_ite (fun c_4 => ?_) (fun c_4 => ?_)
        · refine zz_tabIn (tgt := 69) C dX8_now_1 (by rw [c_4]; decide) (by rw [c_4]; decide) (by rw [c_4]; rfl) (by decide) ?_
          refine zz_aload_n C dX8_now_69 rfl (lv_at hl 0 rfl) ?_
          refine zz_get C (zz_lt h0 (by decide)) (zz_c8 h0) rfl in_X8_now_X8 0 (by decide) (List.mem_of_getElem? (i := 1) rfl) rfl dX8_now_70 ?_
          refine zz_get C (zz_lt (zz_s8_0 h0) (by decide)) (zz_c1 (zz_s8_0 h0)) rfl in_X8_now_X1 0 (by decide) (List.mem_of_getElem? (i := 2) rfl) rfl dX8_now_73 ?_
          refine zz_callVi (As := []) (rest := []) C (m_X7_grams l E (1 + 1) (zz_s1_0 (zz_s8_0 h0)) M) (cwV 0 C.1.2.2.2.2 gX8_now_X7_grams rfl rfl rfl hdV_X7_grams ⟨Nat.le_of_ble_eq_true rfl, Nat.le_of_ble_eq_true rfl⟩) (zz_lt (zz_s1_0 (zz_s8_0 h0)) (by decide)) (zz_c7 (zz_s1_0 (zz_s8_0 h0))) rfl rfl hl.1 rfl (Nat.le_of_ble_eq_true rfl) dX8_now_76 (fun r_5 M_6 => ?_)
          exact zz_iret C hr dX8_now_79
        · refine zz_ite (fun c_7 => ?_) (fun c_7 => ?_)
          · refine zz_tabIn (tgt := 80) C dX8_now_1 (by rw [c_7]; decide) (by rw [c_7]; decide) (by rw [c_7]; rfl) (by decide) ?_
            refine zz_aload_n C dX8_now_80 rfl (lv_at hl 0 rfl) ?_
            refine zz_get C (zz_lt h0 (by decide)) (zz_c8 h0) rfl in_X8_now_X8 0 (by decide) (List.mem_of_getElem? (i := 1) rfl) rfl dX8_now_81 ?_
            refine zz_callVi (As := []) (rest := []) C (m_X1_candleGrams l E 1 (zz_s8_0 h0) M) (cwV 0 C.1.2.2.2.2 gX8_now_X1_candleGrams rfl rfl rfl hdV_X1_candleGrams ⟨Nat.le_of_ble_eq_true rfl, Nat.le_of_ble_eq_true rfl⟩) (zz_lt (zz_s8_0 h0) (by decide)) (zz_c1 (zz_s8_0 h0)) rfl rfl hl.1 rfl (Nat.le_of_ble_eq_true rfl) dX8_now_84 (fun r_8 M_9 => ?_)
            exact zz_iret C hr dX8_now_87
          · refine zz_tabOut (tgt := 88) C dX8_now_1 (by have q0 : x1.toInt ≠ 0 := zz_ne c_1; have q1 : x1.toInt ≠ 1 := zz_ne c_2; have q2 : x1.toInt ≠ 2 := zz_ne c_3; have q3 : x1.toInt ≠ 3 := zz_ne c_4; have q4 : x1.toInt ≠ 4 := zz_ne c_7; omega) (by decide) ?_
            refine zz_aload_n C dX8_now_88 rfl (lv_at hl 0 rfl) ?_
            refine zz_ldc (v := -1000000001) C (List.mem_of_getElem? (i := 6) rfl) dX8_now_89 ?_
            refine zz_callVi (As := [.int (-1000000001 : Int32)]) (rest := []) C (m_X8_finding l E a0 (-1000000001 : Int32) h0 M) (cwV 1 C.1.2.2.2.2 gX8_now_X8_finding rfl rfl rfl hdV_X8_finding ⟨Nat.le_of_ble_eq_true rfl, Nat.le_of_ble_eq_true rfl⟩) (zz_lt h0 (by decide)) (zz_c8 h0) rfl rfl hl.1 rfl (Nat.le_of_ble_eq_true rfl) dX8_now_91 (fun r_10 M_11 => ?_)
            exact zz_iret C hr dX8_now_94
-- X8_warm ('X8', 'warm', '(II)I')
theorem in_X8_warm_X1 : ∀ w ∈ u_ws RX1 TX1 3, w ∈ wsX8_warm := fun _ h => List.mem_cons_of_mem _ (List.mem_append_left _ (List.mem_append_left _ (List.mem_append_right _ h)))
theorem in_X8_warm_X6 : ∀ w ∈ u_ws RX6 TX6 4, w ∈ wsX8_warm := fun _ h => List.mem_cons_of_mem _ (List.mem_append_right _ h)
theorem in_X8_warm_X7 : ∀ w ∈ u_ws RX7 TX7 4, w ∈ wsX8_warm := fun _ h => List.mem_cons_of_mem _ (List.mem_append_left _ (List.mem_append_right _ h))
theorem in_X8_warm_X8 : ∀ w ∈ u_ws RX8 TX8 11, w ∈ wsX8_warm := fun _ h => List.mem_cons_of_mem _ (List.mem_append_left _ (List.mem_append_left _ (List.mem_append_left _ (List.mem_append_right _ h))))
def f_X8_warm (a0 : Nat) (x1 : Int32) (x2 : Int32) (M : zz_M) : Option (Int32 × zz_M) := zz_bd (f_X8_isVat x1 M) (fun r_1 M_2 => (if r_1 = 0 then zz_bd (f_X8_finding a0 (-1000000001 : Int32) M_2) (fun r_4 M_5 => some (r_4, M_5)) else zz_bd (f_X8_within x2 (0 : Int32) (200 : Int32) M_2) (fun r_6 M_7 => (if r_6 = 0 then zz_bd (f_X8_finding a0 (-1000000001 : Int32) M_7) (fun r_15 M_16 => some (r_15, M_16)) else (if ((zz_i M_7 (1 + 1) 3) + x2) ≤ (9999 : Int32) then zz_bd (f_X7_become 57 (1 + 1) M_7) (fun _ M_10 => zz_bd (f_X7_pass 57 x2 M_10) (fun _ M_11 => (if zz_in x1 4 = true then some ((zz_i M_11 ((57 + 1) + 1 + zz_n x1) 1), M_11) else none))) else zz_bd (f_X8_finding a0 (-1000000005 : Int32) M_7) (fun r_13 M_14 => some (r_13, M_14)))))))
set_option maxRecDepth 100000 in
set_option maxHeartbeats 4000000 in
theorem m_X8_warm (l : Launch) (E : zz_E) (a0 : Nat) (x1 : Int32) (x2 : Int32) (h0 : zz_sh a0 = 8) (M : zz_M) : zz_Met (zz_pi E) l yX8_warm wsX8_warm 4 E [.ref (E.1 + a0), .int x1, .int x2] M (f_X8_warm a0 x1 x2 M) := by
  refine zz_met (cc := cX8_warm) (nL := 3) (ret := (some .int)) (by decide) rfl (Nat.le_of_ble_eq_true rfl) ?_
  intro p e s m below meth c C hr ls hl
  have C : zz_C E RX8 cX8_warm 3 wsX8_warm p s m [.ref (E.1 + a0), .int x1, .int x2].toArray meth c := C
  have hl : lv_has ls 3 [(0, .ref (E.1 + a0)), (1, .int x1), (2, .int x2)] := hl
  unfold f_X8_warm
  refine zz_iload_n C dX8_warm_0 rfl (lv_at hl 1 rfl) ?_
  refine zz_callSi (As := [.int x1]) (rest := []) C (m_X8_isVat l E x1  M) (va_cwS 1 C.1.2.2.2.2 gX8_warm_X8_isVat rfl rfl rfl hdS_X8_isVat ⟨Nat.le_of_ble_eq_true rfl, Nat.le_of_ble_eq_true rfl⟩) rfl hl.1 rfl (Nat.le_of_ble_eq_true rfl) dX8_warm_1 (fun r_1 M_2 => ?_)
  refine zz_if_eq (tgt := 18) C dX8_warm_4 (by decide) (fun c_3 => ?_) (fun c_3 => ?_)
  · refine zz_aload_n C dX8_warm_18 rfl (lv_at hl 0 rfl) ?_
    refine zz_ldc (v := -1000000001) C (List.mem_of_getElem? (i := 1) rfl) dX8_warm_19 ?_
    refine zz_callVi (As := [.int (-1000000001 : Int32)]) (rest := []) C (m_X8_finding l E a0 (-1000000001 : Int32) h0 M_2) (cwV 1 C.1.2.2.2.2 gX8_warm_X8_finding rfl rfl rfl hdV_X8_finding ⟨Nat.le_of_ble_eq_true rfl, Nat.le_of_ble_eq_true rfl⟩) (zz_lt h0 (by decide)) (zz_c8 h0) rfl rfl hl.1 rfl (Nat.le_of_ble_eq_true rfl) dX8_warm_21 (fun r_4 M_5 => ?_)
    exact zz_iret C hr dX8_warm_24
  · refine zz_iload_n C dX8_warm_7 rfl (lv_at hl 2 rfl) ?_
    refine zz_iconst (v := 0) C dX8_warm_8 (by decide) ?_
    refine zz_sipush (v := 200) C dX8_warm_9 (by decide) ?_
    refine zz_callSi (As := [.int x2, .int (0 : Int32), .int (200 : Int32)]) (rest := []) C (m_X8_within l E x2 (0 : Int32) (200 : Int32)  M_2) (va_cwS 3 C.1.2.2.2.2 gX8_warm_X8_within rfl rfl rfl hdS_X8_within ⟨Nat.le_of_ble_eq_true rfl, Nat.le_of_ble_eq_true rfl⟩) rfl hl.1 rfl (Nat.le_of_ble_eq_true rfl) dX8_warm_12 (fun r_6 M_7 => ?_)
    refine zz_if_ne (tgt := 25) C dX8_warm_15 (by decide) (fun c_8 => ?_) (fun c_8 => ?_)
    · refine zz_aload_n C dX8_warm_18 rfl (lv_at hl 0 rfl) ?_
      refine zz_ldc (v := -1000000001) C (List.mem_of_getElem? (i := 1) rfl) dX8_warm_19 ?_
      refine zz_callVi (As := [.int (-1000000001 : Int32)]) (rest := []) C (m_X8_finding l E a0 (-1000000001 : Int32) h0 M_7) (cwV 1 C.1.2.2.2.2 gX8_warm_X8_finding rfl rfl rfl hdV_X8_finding ⟨Nat.le_of_ble_eq_true rfl, Nat.le_of_ble_eq_true rfl⟩) (zz_lt h0 (by decide)) (zz_c8 h0) rfl rfl hl.1 rfl (Nat.le_of_ble_eq_true rfl) dX8_warm_21 (fun r_15 M_16 => ?_)
      exact zz_iret C hr dX8_warm_24
    · refine zz_aload_n C dX8_warm_25 rfl (lv_at hl 0 rfl) ?_
      refine zz_get C (zz_lt h0 (by decide)) (zz_c8 h0) rfl in_X8_warm_X8 0 (by decide) (List.mem_of_getElem? (i := 2) rfl) rfl dX8_warm_26 ?_
      refine zz_get C (zz_lt (zz_s8_0 h0) (by decide)) (zz_c1 (zz_s8_0 h0)) rfl in_X8_warm_X1 0 (by decide) (List.mem_of_getElem? (i := 3) rfl) rfl dX8_warm_29 ?_
      refine zz_get C (zz_lt (zz_s1_0 (zz_s8_0 h0)) (by decide)) (zz_c7 (zz_s1_0 (zz_s8_0 h0))) rfl in_X8_warm_X7 3 (by decide) (List.mem_of_getElem? (i := 4) rfl) rfl dX8_warm_32 ?_
      refine zz_iload_n C dX8_warm_35 rfl (lv_at hl 2 rfl) ?_
      refine zz_iadd C dX8_warm_36 ?_
      refine zz_sipush (v := 9999) C dX8_warm_37 (by decide) ?_
      refine zz_icmp_le (tgt := 50) C dX8_warm_40 (by decide) (fun c_9 => ?_) (fun c_9 => ?_)
      · refine zz_aload_n C dX8_warm_50 rfl (lv_at hl 0 rfl) ?_
        refine zz_get C (zz_lt h0 (by decide)) (zz_c8 h0) rfl in_X8_warm_X8 3 (by decide) (List.mem_of_getElem? (i := 6) rfl) rfl dX8_warm_51 ?_
        refine zz_aload_n C dX8_warm_54 rfl (lv_at hl 0 rfl) ?_
        refine zz_get C (zz_lt h0 (by decide)) (zz_c8 h0) rfl in_X8_warm_X8 0 (by decide) (List.mem_of_getElem? (i := 2) rfl) rfl dX8_warm_55 ?_
        refine zz_get C (zz_lt (zz_s8_0 h0) (by decide)) (zz_c1 (zz_s8_0 h0)) rfl in_X8_warm_X1 0 (by decide) (List.mem_of_getElem? (i := 3) rfl) rfl dX8_warm_58 ?_
        refine zz_callVv (As := [.ref (E.1 + (1 + 1))]) (rest := []) C (m_X7_become l E 57 (1 + 1) (zz_s8_3 h0) (zz_s1_0 (zz_s8_0 h0)) M_7) (cwV 1 C.1.2.2.2.2 gX8_warm_X7_become rfl rfl rfl hdV_X7_become ⟨Nat.le_of_ble_eq_true rfl, Nat.le_of_ble_eq_true rfl⟩) (zz_lt (zz_s8_3 h0) (by decide)) (zz_c7 (zz_s8_3 h0)) rfl rfl hl.1 rfl (Nat.le_of_ble_eq_true rfl) dX8_warm_61 (fun _ M_10 => ?_)
        refine zz_aload_n C dX8_warm_64 rfl (lv_at hl 0 rfl) ?_
        refine zz_get C (zz_lt h0 (by decide)) (zz_c8 h0) rfl in_X8_warm_X8 3 (by decide) (List.mem_of_getElem? (i := 6) rfl) rfl dX8_warm_65 ?_
        refine zz_iload_n C dX8_warm_68 rfl (lv_at hl 2 rfl) ?_
        refine zz_callVv (As := [.int x2]) (rest := []) C (m_X7_pass l E 57 x2 (zz_s8_3 h0) M_10) (cwV 1 C.1.2.2.2.2 gX8_warm_X7_pass rfl rfl rfl hdV_X7_pass ⟨Nat.le_of_ble_eq_true rfl, Nat.le_of_ble_eq_true rfl⟩) (zz_lt (zz_s8_3 h0) (by decide)) (zz_c7 (zz_s8_3 h0)) rfl rfl hl.1 rfl (Nat.le_of_ble_eq_true rfl) dX8_warm_69 (fun _ M_11 => ?_)
        refine zz_aload_n C dX8_warm_72 rfl (lv_at hl 0 rfl) ?_
        refine zz_get C (zz_lt h0 (by decide)) (zz_c8 h0) rfl in_X8_warm_X8 3 (by decide) (List.mem_of_getElem? (i := 6) rfl) rfl dX8_warm_73 ?_
        refine zz_get C (zz_lt (zz_s8_3 h0) (by decide)) (zz_c7 (zz_s8_3 h0)) rfl in_X8_warm_X7 0 (by decide) (List.mem_of_getElem? (i := 7) rfl) rfl dX8_warm_76 ?_
        refine zz_iload_n C dX8_warm_79 rfl (lv_at hl 1 rfl) ?_
        refine zz_aald (t := 4) (g := fun i => (57 + 1) + 1 + i) C (zz_lt (zz_s7_0 (zz_s8_3 h0)) (by decide)) (zz_c21 (zz_s7_0 (zz_s8_3 h0))) rfl dX8_warm_80 (fun b_12 => ?_)
        refine zz_get C (zz_lt (zz_e21 (zz_s7_0 (zz_s8_3 h0)) b_12) (by decide)) (zz_c6 (zz_e21 (zz_s7_0 (zz_s8_3 h0)) b_12)) rfl in_X8_warm_X6 1 (by decide) (List.mem_of_getElem? (i := 8) rfl) rfl dX8_warm_81 ?_
        exact zz_iret C hr dX8_warm_84
      · refine zz_aload_n C dX8_warm_43 rfl (lv_at hl 0 rfl) ?_
        refine zz_ldc (v := -1000000005) C (List.mem_of_getElem? (i := 5) rfl) dX8_warm_44 ?_
        refine zz_callVi (As := [.int (-1000000005 : Int32)]) (rest := []) C (m_X8_finding l E a0 (-1000000005 : Int32) h0 M_7) (cwV 1 C.1.2.2.2.2 gX8_warm_X8_finding rfl rfl rfl hdV_X8_finding ⟨Nat.le_of_ble_eq_true rfl, Nat.le_of_ble_eq_true rfl⟩) (zz_lt h0 (by decide)) (zz_c8 h0) rfl rfl hl.1 rfl (Nat.le_of_ble_eq_true rfl) dX8_warm_46 (fun r_13 M_14 => ?_)
        exact zz_iret C hr dX8_warm_49
-- X8_when ('X8', 'when', '(II)I')
theorem in_X8_when_X1 : ∀ w ∈ u_ws RX1 TX1 3, w ∈ wsX8_when := fun _ h => List.mem_cons_of_mem _ (List.mem_append_left _ (List.mem_append_left _ (List.mem_append_right _ h)))
theorem in_X8_when_X6 : ∀ w ∈ u_ws RX6 TX6 4, w ∈ wsX8_when := fun _ h => List.mem_cons_of_mem _ (List.mem_append_right _ h)
theorem in_X8_when_X7 : ∀ w ∈ u_ws RX7 TX7 4, w ∈ wsX8_when := fun _ h => List.mem_cons_of_mem _ (List.mem_append_left _ (List.mem_append_right _ h))
theorem in_X8_when_X8 : ∀ w ∈ u_ws RX8 TX8 11, w ∈ wsX8_when := fun _ h => List.mem_cons_of_mem _ (List.mem_append_left _ (List.mem_append_left _ (List.mem_append_left _ (List.mem_append_right _ h))))
def b_X8_when_67 : Nat → Nat → Int32 → Int32 → Int32 → zz_M → Option (Int32 × zz_M)
  | 0 => fun _ _ _ _ _ => none
  | n + 1 => fun a0 x1 x2 x3 M => (if (200 : Int32) < x3 then zz_bd (f_X8_finding a0 (-1000000004 : Int32) M) (fun r_16 M_17 => some (r_16, M_17)) else (if zz_in x1 4 = true then (if (zz_i M ((57 + 1) + 1 + zz_n x1) 1) < x2 then zz_bd (f_X7_pass 57 (1 : Int32) M) (fun _ M_20 => zz_w (x3 + (1 : Int32)) (fun x3_21 => (b_X8_when_67 n) a0 x1 x2 x3_21 M_20)) else some (x3, M)) else none))
set_option maxRecDepth 100000 in
set_option maxHeartbeats 4000000 in
theorem wb_X8_when_67 {p : Program} {l : Launch} {e : Env} {s : State} {m : MethodId} {args : Array Value} {below : List Frame} {meth : Method} {c : Code} {E : zz_E} (C : zz_C E RX8 cX8_when 4 wsX8_when p s m args meth c) (hr : meth.sig.returnType = (some .int)) : ∀ (n : Nat) (a0 : Nat) (x1 : Int32) (x2 : Int32) (x3 : Int32) (ha0 : zz_sh a0 = 8) (M : zz_M) (ls : Array Slot), lv_has ls 4 [(0, .ref (E.1 + a0)), (1, .int x1), (2, .int x2), (3, .int x3)] → zz_Z E p l e (zz_rm 4) s m args below meth c (zz_Q (zz_pi E) E below args s) (b_X8_when_67 n a0 x1 x2 x3 M) M (F0 m 67 ls []) := by
  intro n
  induction n with
  | zero => intro a0 x1 x2 x3 ha0 M ls hl; exact zz_none
  | succ n ih =>
    intro a0 x1 x2 x3 ha0 M ls hl
    rw [b_X8_when_67]
    refine zz_iload_n C dX8_when_67 rfl (lv_at hl 3 rfl) ?_
    refine zz_sipush (v := 200) C dX8_when_68 (by decide) ?_
    refine zz_icmp_gt (tgt := 106) C dX8_when_71 (by decide) (fun c_15 => ?_) (fun c_15 => ?_)
    · refine zz_aload_n C dX8_when_106 rfl (lv_at hl 0 rfl) ?_
      refine zz_ldc (v := -1000000004) C (List.mem_of_getElem? (i := 9) rfl) dX8_when_107 ?_
      refine zz_callVi (As := [.int (-1000000004 : Int32)]) (rest := []) C (m_X8_finding l E a0 (-1000000004 : Int32) ha0 M) (cwV 1 C.1.2.2.2.2 gX8_when_X8_finding rfl rfl rfl hdV_X8_finding ⟨Nat.le_of_ble_eq_true rfl, Nat.le_of_ble_eq_true rfl⟩) (zz_lt ha0 (by decide)) (zz_c8 ha0) rfl rfl hl.1 rfl (Nat.le_of_ble_eq_true rfl) dX8_when_109 (fun r_16 M_17 => ?_)
      exact zz_iret C hr dX8_when_112
    · refine zz_aload_n C dX8_when_74 rfl (lv_at hl 0 rfl) ?_
      refine zz_get C (zz_lt ha0 (by decide)) (zz_c8 ha0) rfl in_X8_when_X8 3 (by decide) (List.mem_of_getElem? (i := 6) rfl) rfl dX8_when_75 ?_
      refine zz_get C (zz_lt (zz_s8_3 ha0) (by decide)) (zz_c7 (zz_s8_3 ha0)) rfl in_X8_when_X7 0 (by decide) (List.mem_of_getElem? (i := 7) rfl) rfl dX8_when_78 ?_
      refine zz_iload_n C dX8_when_81 rfl (lv_at hl 1 rfl) ?_
      refine zz_aald (t := 4) (g := fun i => (57 + 1) + 1 + i) C (zz_lt (zz_s7_0 (zz_s8_3 ha0)) (by decide)) (zz_c21 (zz_s7_0 (zz_s8_3 ha0))) rfl dX8_when_82 (fun b_18 => ?_)
      refine zz_get C (zz_lt (zz_e21 (zz_s7_0 (zz_s8_3 ha0)) b_18) (by decide)) (zz_c6 (zz_e21 (zz_s7_0 (zz_s8_3 ha0)) b_18)) rfl in_X8_when_X6 1 (by decide) (List.mem_of_getElem? (i := 8) rfl) rfl dX8_when_83 ?_
      refine zz_iload_n C dX8_when_86 rfl (lv_at hl 2 rfl) ?_
      refine zz_icmp_lt (tgt := 92) C dX8_when_87 (by decide) (fun c_19 => ?_) (fun c_19 => ?_)
      · refine zz_aload_n C dX8_when_92 rfl (lv_at hl 0 rfl) ?_
        refine zz_get C (zz_lt ha0 (by decide)) (zz_c8 ha0) rfl in_X8_when_X8 3 (by decide) (List.mem_of_getElem? (i := 6) rfl) rfl dX8_when_93 ?_
        refine zz_iconst (v := 1) C dX8_when_96 (by decide) ?_
        refine zz_callVv (As := [.int (1 : Int32)]) (rest := []) C (m_X7_pass l E 57 (1 : Int32) (zz_s8_3 ha0) M) (cwV 1 C.1.2.2.2.2 gX8_when_X7_pass rfl rfl rfl hdV_X7_pass ⟨Nat.le_of_ble_eq_true rfl, Nat.le_of_ble_eq_true rfl⟩) (zz_lt (zz_s8_3 ha0) (by decide)) (zz_c7 (zz_s8_3 ha0)) rfl rfl hl.1 rfl (Nat.le_of_ble_eq_true rfl) dX8_when_97 (fun _ M_20 => ?_)
        refine zz_iinc (k9 := 3) (d := 1) C (fun x3_21 => [(3, .int x3_21), (0, .ref (E.1 + a0)), (1, .int x1), (2, .int x2)]) dX8_when_100 hl rfl (by decide) (by decide) (fun _ => rfl) (fun x3_21 ls hl => ?_)
        refine zz_goto (tgt := 67) C dX8_when_103 (by decide) ?_
        exact ih a0 x1 x2 x3_21 ha0 M_20 ls (lv_sub hl [1, 2, 3, 0] rfl)
      · refine zz_iload_n C dX8_when_90 rfl (lv_at hl 3 rfl) ?_
        exact zz_iret C hr dX8_when_91
def f_X8_when (a0 : Nat) (x1 : Int32) (x2 : Int32) (M : zz_M) : Option (Int32 × zz_M) := zz_bd (f_X8_isVat x1 M) (fun r_1 M_2 => (if r_1 = 0 then zz_bd (f_X8_finding a0 (-1000000001 : Int32) M_2) (fun r_4 M_5 => some (r_4, M_5)) else zz_bd (f_X8_within x2 (0 : Int32) (99 : Int32) M_2) (fun r_6 M_7 => (if r_6 = 0 then zz_bd (f_X8_finding a0 (-1000000001 : Int32) M_7) (fun r_13 M_14 => some (r_13, M_14)) else (if ((zz_i M_7 (1 + 1) 3) + (200 : Int32)) ≤ (9999 : Int32) then zz_bd (f_X7_become 57 (1 + 1) M_7) (fun _ M_10 => b_X8_when_67  zz_fuel a0 x1 x2 (0 : Int32) M_10) else zz_bd (f_X8_finding a0 (-1000000005 : Int32) M_7) (fun r_11 M_12 => some (r_11, M_12)))))))
set_option maxRecDepth 100000 in
set_option maxHeartbeats 4000000 in
theorem m_X8_when (l : Launch) (E : zz_E) (a0 : Nat) (x1 : Int32) (x2 : Int32) (h0 : zz_sh a0 = 8) (M : zz_M) : zz_Met (zz_pi E) l yX8_when wsX8_when 4 E [.ref (E.1 + a0), .int x1, .int x2] M (f_X8_when a0 x1 x2 M) := by
  refine zz_met (cc := cX8_when) (nL := 4) (ret := (some .int)) (by decide) rfl (Nat.le_of_ble_eq_true rfl) ?_
  intro p e s m below meth c C hr ls hl
  have C : zz_C E RX8 cX8_when 4 wsX8_when p s m [.ref (E.1 + a0), .int x1, .int x2].toArray meth c := C
  have hl : lv_has ls 4 [(0, .ref (E.1 + a0)), (1, .int x1), (2, .int x2)] := hl
  unfold f_X8_when
  refine zz_iload_n C dX8_when_0 rfl (lv_at hl 1 rfl) ?_
  refine zz_callSi (As := [.int x1]) (rest := []) C (m_X8_isVat l E x1  M) (va_cwS 1 C.1.2.2.2.2 gX8_when_X8_isVat rfl rfl rfl hdS_X8_isVat ⟨Nat.le_of_ble_eq_true rfl, Nat.le_of_ble_eq_true rfl⟩) rfl hl.1 rfl (Nat.le_of_ble_eq_true rfl) dX8_when_1 (fun r_1 M_2 => ?_)
  refine zz_if_eq (tgt := 17) C dX8_when_4 (by decide) (fun c_3 => ?_) (fun c_3 => ?_)
  · refine zz_aload_n C dX8_when_17 rfl (lv_at hl 0 rfl) ?_
    refine zz_ldc (v := -1000000001) C (List.mem_of_getElem? (i := 1) rfl) dX8_when_18 ?_
    refine zz_callVi (As := [.int (-1000000001 : Int32)]) (rest := []) C (m_X8_finding l E a0 (-1000000001 : Int32) h0 M_2) (cwV 1 C.1.2.2.2.2 gX8_when_X8_finding rfl rfl rfl hdV_X8_finding ⟨Nat.le_of_ble_eq_true rfl, Nat.le_of_ble_eq_true rfl⟩) (zz_lt h0 (by decide)) (zz_c8 h0) rfl rfl hl.1 rfl (Nat.le_of_ble_eq_true rfl) dX8_when_20 (fun r_4 M_5 => ?_)
    exact zz_iret C hr dX8_when_23
  · refine zz_iload_n C dX8_when_7 rfl (lv_at hl 2 rfl) ?_
    refine zz_iconst (v := 0) C dX8_when_8 (by decide) ?_
    refine zz_bipush (v := 99) C dX8_when_9 (by decide) ?_
    refine zz_callSi (As := [.int x2, .int (0 : Int32), .int (99 : Int32)]) (rest := []) C (m_X8_within l E x2 (0 : Int32) (99 : Int32)  M_2) (va_cwS 3 C.1.2.2.2.2 gX8_when_X8_within rfl rfl rfl hdS_X8_within ⟨Nat.le_of_ble_eq_true rfl, Nat.le_of_ble_eq_true rfl⟩) rfl hl.1 rfl (Nat.le_of_ble_eq_true rfl) dX8_when_11 (fun r_6 M_7 => ?_)
    refine zz_if_ne (tgt := 24) C dX8_when_14 (by decide) (fun c_8 => ?_) (fun c_8 => ?_)
    · refine zz_aload_n C dX8_when_17 rfl (lv_at hl 0 rfl) ?_
      refine zz_ldc (v := -1000000001) C (List.mem_of_getElem? (i := 1) rfl) dX8_when_18 ?_
      refine zz_callVi (As := [.int (-1000000001 : Int32)]) (rest := []) C (m_X8_finding l E a0 (-1000000001 : Int32) h0 M_7) (cwV 1 C.1.2.2.2.2 gX8_when_X8_finding rfl rfl rfl hdV_X8_finding ⟨Nat.le_of_ble_eq_true rfl, Nat.le_of_ble_eq_true rfl⟩) (zz_lt h0 (by decide)) (zz_c8 h0) rfl rfl hl.1 rfl (Nat.le_of_ble_eq_true rfl) dX8_when_20 (fun r_13 M_14 => ?_)
      exact zz_iret C hr dX8_when_23
    · refine zz_aload_n C dX8_when_24 rfl (lv_at hl 0 rfl) ?_
      refine zz_get C (zz_lt h0 (by decide)) (zz_c8 h0) rfl in_X8_when_X8 0 (by decide) (List.mem_of_getElem? (i := 2) rfl) rfl dX8_when_25 ?_
      refine zz_get C (zz_lt (zz_s8_0 h0) (by decide)) (zz_c1 (zz_s8_0 h0)) rfl in_X8_when_X1 0 (by decide) (List.mem_of_getElem? (i := 3) rfl) rfl dX8_when_28 ?_
      refine zz_get C (zz_lt (zz_s1_0 (zz_s8_0 h0)) (by decide)) (zz_c7 (zz_s1_0 (zz_s8_0 h0))) rfl in_X8_when_X7 3 (by decide) (List.mem_of_getElem? (i := 4) rfl) rfl dX8_when_31 ?_
      refine zz_sipush (v := 200) C dX8_when_34 (by decide) ?_
      refine zz_iadd C dX8_when_37 ?_
      refine zz_sipush (v := 9999) C dX8_when_38 (by decide) ?_
      refine zz_icmp_le (tgt := 51) C dX8_when_41 (by decide) (fun c_9 => ?_) (fun c_9 => ?_)
      · refine zz_aload_n C dX8_when_51 rfl (lv_at hl 0 rfl) ?_
        refine zz_get C (zz_lt h0 (by decide)) (zz_c8 h0) rfl in_X8_when_X8 3 (by decide) (List.mem_of_getElem? (i := 6) rfl) rfl dX8_when_52 ?_
        refine zz_aload_n C dX8_when_55 rfl (lv_at hl 0 rfl) ?_
        refine zz_get C (zz_lt h0 (by decide)) (zz_c8 h0) rfl in_X8_when_X8 0 (by decide) (List.mem_of_getElem? (i := 2) rfl) rfl dX8_when_56 ?_
        refine zz_get C (zz_lt (zz_s8_0 h0) (by decide)) (zz_c1 (zz_s8_0 h0)) rfl in_X8_when_X1 0 (by decide) (List.mem_of_getElem? (i := 3) rfl) rfl dX8_when_59 ?_
        refine zz_callVv (As := [.ref (E.1 + (1 + 1))]) (rest := []) C (m_X7_become l E 57 (1 + 1) (zz_s8_3 h0) (zz_s1_0 (zz_s8_0 h0)) M_7) (cwV 1 C.1.2.2.2.2 gX8_when_X7_become rfl rfl rfl hdV_X7_become ⟨Nat.le_of_ble_eq_true rfl, Nat.le_of_ble_eq_true rfl⟩) (zz_lt (zz_s8_3 h0) (by decide)) (zz_c7 (zz_s8_3 h0)) rfl rfl hl.1 rfl (Nat.le_of_ble_eq_true rfl) dX8_when_62 (fun _ M_10 => ?_)
        refine zz_iconst (v := 0) C dX8_when_65 (by decide) ?_
        refine zz_istored_n (lv' := [(3, .int (0 : Int32)), (0, .ref (E.1 + a0)), (1, .int x1), (2, .int x2)]) C dX8_when_66 rfl hl (by decide) rfl (fun ls hl => ?_)
        exact wb_X8_when_67 C hr  zz_fuel a0 x1 x2 (0 : Int32) h0 M_10 ls (lv_sub hl [1, 2, 3, 0] rfl)
      · refine zz_aload_n C dX8_when_44 rfl (lv_at hl 0 rfl) ?_
        refine zz_ldc (v := -1000000005) C (List.mem_of_getElem? (i := 5) rfl) dX8_when_45 ?_
        refine zz_callVi (As := [.int (-1000000005 : Int32)]) (rest := []) C (m_X8_finding l E a0 (-1000000005 : Int32) h0 M_7) (cwV 1 C.1.2.2.2.2 gX8_when_X8_finding rfl rfl rfl hdV_X8_finding ⟨Nat.le_of_ble_eq_true rfl, Nat.le_of_ble_eq_true rfl⟩) (zz_lt h0 (by decide)) (zz_c8 h0) rfl rfl hl.1 rfl (Nat.le_of_ble_eq_true rfl) dX8_when_47 (fun r_11 M_12 => ?_)
        exact zz_iret C hr dX8_when_50
-- X8_takesIn ('X8', 'takesIn', '(III)I')
theorem in_X8_takesIn_X1 : ∀ w ∈ u_ws RX1 TX1 3, w ∈ wsX8_takesIn := fun _ h => List.mem_cons_of_mem _ (List.mem_append_left _ (List.mem_append_left _ (List.mem_append_left _ (List.mem_append_right _ h))))
theorem in_X8_takesIn_X6 : ∀ w ∈ u_ws RX6 TX6 4, w ∈ wsX8_takesIn := fun _ h => List.mem_cons_of_mem _ (List.mem_append_left _ (List.mem_append_right _ h))
theorem in_X8_takesIn_X7 : ∀ w ∈ u_ws RX7 TX7 4, w ∈ wsX8_takesIn := fun _ h => List.mem_cons_of_mem _ (List.mem_append_left _ (List.mem_append_left _ (List.mem_append_right _ h)))
theorem in_X8_takesIn_X8 : ∀ w ∈ u_ws RX8 TX8 11, w ∈ wsX8_takesIn := fun _ h => List.mem_cons_of_mem _ (List.mem_append_left _ (List.mem_append_left _ (List.mem_append_left _ (List.mem_append_left _ (List.mem_append_right _ h)))))
def b_X8_takesIn_90 : Nat → Nat → Int32 → Int32 → Nat → Int32 → zz_M → Option (Int32 × zz_M)
  | 0 => fun _ _ _ _ _ _ => none
  | n + 1 => fun a0 x2 x3 a4 x5 M => (if (200 : Int32) < x5 then zz_bd (f_X8_finding a0 (-1000000004 : Int32) M) (fun r_22 M_23 => some (r_22, M_23)) else (if zz_in x2 4 = true then zz_bd (f_X0_gain a4 (zz_i M ((57 + 1) + 1 + zz_n x2) 1) M) (fun r_25 M_26 => (if r_25 < x3 then zz_bd (f_X7_pass 57 (1 : Int32) M_26) (fun _ M_28 => zz_w (x5 + (1 : Int32)) (fun x5_29 => (b_X8_takesIn_90 n) a0 x2 x3 a4 x5_29 M_28)) else some (x5, M_26))) else none))
set_option maxRecDepth 100000 in
set_option maxHeartbeats 4000000 in
theorem wb_X8_takesIn_90 {p : Program} {l : Launch} {e : Env} {s : State} {m : MethodId} {args : Array Value} {below : List Frame} {meth : Method} {c : Code} {E : zz_E} (C : zz_C E RX8 cX8_takesIn 6 wsX8_takesIn p s m args meth c) (hr : meth.sig.returnType = (some .int)) : ∀ (n : Nat) (a0 : Nat) (x2 : Int32) (x3 : Int32) (a4 : Nat) (x5 : Int32) (ha0 : zz_sh a0 = 8) (ha4 : zz_sh a4 = 0) (M : zz_M) (ls : Array Slot), lv_has ls 6 [(0, .ref (E.1 + a0)), (2, .int x2), (3, .int x3), (4, .ref (E.1 + a4)), (5, .int x5)] → zz_Z E p l e (zz_rm 4) s m args below meth c (zz_Q (zz_pi E) E below args s) (b_X8_takesIn_90 n a0 x2 x3 a4 x5 M) M (F0 m 90 ls []) := by
  intro n
  induction n with
  | zero => intro a0 x2 x3 a4 x5 ha0 ha4 M ls hl; exact zz_none
  | succ n ih =>
    intro a0 x2 x3 a4 x5 ha0 ha4 M ls hl
    rw [b_X8_takesIn_90]
    refine zz_iload C dX8_takesIn_90 (lv_at hl 4 rfl) ?_
    refine zz_sipush (v := 200) C dX8_takesIn_92 (by decide) ?_
    refine zz_icmp_gt (tgt := 136) C dX8_takesIn_95 (by decide) (fun c_21 => ?_) (fun c_21 => ?_)
    · refine zz_aload_n C dX8_takesIn_136 rfl (lv_at hl 0 rfl) ?_
      refine zz_ldc (v := -1000000004) C (List.mem_of_getElem? (i := 10) rfl) dX8_takesIn_137 ?_
      refine zz_callVi (As := [.int (-1000000004 : Int32)]) (rest := []) C (m_X8_finding l E a0 (-1000000004 : Int32) ha0 M) (cwV 1 C.1.2.2.2.2 gX8_takesIn_X8_finding rfl rfl rfl hdV_X8_finding ⟨Nat.le_of_ble_eq_true rfl, Nat.le_of_ble_eq_true rfl⟩) (zz_lt ha0 (by decide)) (zz_c8 ha0) rfl rfl hl.1 rfl (Nat.le_of_ble_eq_true rfl) dX8_takesIn_139 (fun r_22 M_23 => ?_)
      exact zz_iret C hr dX8_takesIn_142
    · refine zz_aload C dX8_takesIn_98 (lv_at hl 3 rfl) ?_
      refine zz_aload_n C dX8_takesIn_100 rfl (lv_at hl 0 rfl) ?_
      refine zz_get C (zz_lt ha0 (by decide)) (zz_c8 ha0) rfl in_X8_takesIn_X8 3 (by decide) (List.mem_of_getElem? (i := 7) rfl) rfl dX8_takesIn_101 ?_
      refine zz_get C (zz_lt (zz_s8_3 ha0) (by decide)) (zz_c7 (zz_s8_3 ha0)) rfl in_X8_takesIn_X7 0 (by decide) (List.mem_of_getElem? (i := 8) rfl) rfl dX8_takesIn_104 ?_
      refine zz_iload_n C dX8_takesIn_107 rfl (lv_at hl 1 rfl) ?_
      refine zz_aald (t := 4) (g := fun i => (57 + 1) + 1 + i) C (zz_lt (zz_s7_0 (zz_s8_3 ha0)) (by decide)) (zz_c21 (zz_s7_0 (zz_s8_3 ha0))) rfl dX8_takesIn_108 (fun b_24 => ?_)
      refine zz_get C (zz_lt (zz_e21 (zz_s7_0 (zz_s8_3 ha0)) b_24) (by decide)) (zz_c6 (zz_e21 (zz_s7_0 (zz_s8_3 ha0)) b_24)) rfl in_X8_takesIn_X6 1 (by decide) (List.mem_of_getElem? (i := 9) rfl) rfl dX8_takesIn_109 ?_
      refine zz_callVi (As := [.int (zz_i M ((57 + 1) + 1 + zz_n x2) 1)]) (rest := []) C (m_X0_gain l E a4 (zz_i M ((57 + 1) + 1 + zz_n x2) 1) ha4 M) (cwV 1 C.1.2.2.2.2 gX8_takesIn_X0_gain rfl rfl rfl hdV_X0_gain ⟨Nat.le_of_ble_eq_true rfl, Nat.le_of_ble_eq_true rfl⟩) (zz_lt ha4 (by decide)) (zz_c0 ha4) rfl rfl hl.1 rfl (Nat.le_of_ble_eq_true rfl) dX8_takesIn_112 (fun r_25 M_26 => ?_)
      refine zz_iload_n C dX8_takesIn_115 rfl (lv_at hl 2 rfl) ?_
      refine zz_icmp_lt (tgt := 122) C dX8_takesIn_116 (by decide) (fun c_27 => ?_) (fun c_27 => ?_)
      · refine zz_aload_n C dX8_takesIn_122 rfl (lv_at hl 0 rfl) ?_
        refine zz_get C (zz_lt ha0 (by decide)) (zz_c8 ha0) rfl in_X8_takesIn_X8 3 (by decide) (List.mem_of_getElem? (i := 7) rfl) rfl dX8_takesIn_123 ?_
        refine zz_iconst (v := 1) C dX8_takesIn_126 (by decide) ?_
        refine zz_callVv (As := [.int (1 : Int32)]) (rest := []) C (m_X7_pass l E 57 (1 : Int32) (zz_s8_3 ha0) M_26) (cwV 1 C.1.2.2.2.2 gX8_takesIn_X7_pass rfl rfl rfl hdV_X7_pass ⟨Nat.le_of_ble_eq_true rfl, Nat.le_of_ble_eq_true rfl⟩) (zz_lt (zz_s8_3 ha0) (by decide)) (zz_c7 (zz_s8_3 ha0)) rfl rfl hl.1 rfl (Nat.le_of_ble_eq_true rfl) dX8_takesIn_127 (fun _ M_28 => ?_)
        refine zz_iinc (k9 := 4) (d := 1) C (fun x5_29 => [(5, .int x5_29), (0, .ref (E.1 + a0)), (2, .int x2), (3, .int x3), (4, .ref (E.1 + a4))]) dX8_takesIn_130 hl rfl (by decide) (by decide) (fun _ => rfl) (fun x5_29 ls hl => ?_)
        refine zz_goto (tgt := 90) C dX8_takesIn_133 (by decide) ?_
        exact ih a0 x2 x3 a4 x5_29 ha0 ha4 M_28 ls (lv_sub hl [1, 2, 3, 4, 0] rfl)
      · refine zz_iload C dX8_takesIn_119 (lv_at hl 4 rfl) ?_
        exact zz_iret C hr dX8_takesIn_121
def f_X8_takesIn (a0 : Nat) (x1 : Int32) (x2 : Int32) (x3 : Int32) (M : zz_M) : Option (Int32 × zz_M) := zz_bd (f_X1_has 1 x1 M) (fun r_1 M_2 => (if r_1 = 0 then zz_bd (f_X8_finding a0 (-1000000001 : Int32) M_2) (fun r_4 M_5 => some (r_4, M_5)) else zz_bd (f_X8_isVat x2 M_2) (fun r_6 M_7 => (if r_6 = 0 then zz_bd (f_X8_finding a0 (-1000000001 : Int32) M_7) (fun r_9 M_10 => some (r_9, M_10)) else zz_bd (f_X8_within x3 (1 : Int32) (99 : Int32) M_7) (fun r_11 M_12 => (if r_11 = 0 then zz_bd (f_X8_finding a0 (-1000000001 : Int32) M_12) (fun r_19 M_20 => some (r_19, M_20)) else (if ((zz_i M_12 (1 + 1) 3) + (200 : Int32)) ≤ (9999 : Int32) then (if zz_in x1 10 = true then zz_bd (f_X7_become 57 (1 + 1) M_12) (fun _ M_16 => b_X8_takesIn_90  zz_fuel a0 x2 x3 ((1 + 7) + 1 + 2 * zz_n x1) (0 : Int32) M_16) else none) else zz_bd (f_X8_finding a0 (-1000000005 : Int32) M_12) (fun r_17 M_18 => some (r_17, M_18)))))))))
set_option maxRecDepth 100000 in
set_option maxHeartbeats 4000000 in
theorem m_X8_takesIn (l : Launch) (E : zz_E) (a0 : Nat) (x1 : Int32) (x2 : Int32) (x3 : Int32) (h0 : zz_sh a0 = 8) (M : zz_M) : zz_Met (zz_pi E) l yX8_takesIn wsX8_takesIn 4 E [.ref (E.1 + a0), .int x1, .int x2, .int x3] M (f_X8_takesIn a0 x1 x2 x3 M) := by
  refine zz_met (cc := cX8_takesIn) (nL := 6) (ret := (some .int)) (by decide) rfl (Nat.le_of_ble_eq_true rfl) ?_
  intro p e s m below meth c C hr ls hl
  have C : zz_C E RX8 cX8_takesIn 6 wsX8_takesIn p s m [.ref (E.1 + a0), .int x1, .int x2, .int x3].toArray meth c := C
  have hl : lv_has ls 6 [(0, .ref (E.1 + a0)), (1, .int x1), (2, .int x2), (3, .int x3)] := hl
  unfold f_X8_takesIn
  refine zz_aload_n C dX8_takesIn_0 rfl (lv_at hl 0 rfl) ?_
  refine zz_get C (zz_lt h0 (by decide)) (zz_c8 h0) rfl in_X8_takesIn_X8 0 (by decide) (List.mem_of_getElem? (i := 1) rfl) rfl dX8_takesIn_1 ?_
  refine zz_iload_n C dX8_takesIn_4 rfl (lv_at hl 1 rfl) ?_
  refine zz_callVi (As := [.int x1]) (rest := []) C (m_X1_has l E 1 x1 (zz_s8_0 h0) M) (cwV 1 C.1.2.2.2.2 gX8_takesIn_X1_has rfl rfl rfl hdV_X1_has ⟨Nat.le_of_ble_eq_true rfl, Nat.le_of_ble_eq_true rfl⟩) (zz_lt (zz_s8_0 h0) (by decide)) (zz_c1 (zz_s8_0 h0)) rfl rfl hl.1 rfl (Nat.le_of_ble_eq_true rfl) dX8_takesIn_5 (fun r_1 M_2 => ?_)
  refine zz_if_eq (tgt := 28) C dX8_takesIn_8 (by decide) (fun c_3 => ?_) (fun c_3 => ?_)
  · refine zz_aload_n C dX8_takesIn_28 rfl (lv_at hl 0 rfl) ?_
    refine zz_ldc (v := -1000000001) C (List.mem_of_getElem? (i := 2) rfl) dX8_takesIn_29 ?_
    refine zz_callVi (As := [.int (-1000000001 : Int32)]) (rest := []) C (m_X8_finding l E a0 (-1000000001 : Int32) h0 M_2) (cwV 1 C.1.2.2.2.2 gX8_takesIn_X8_finding rfl rfl rfl hdV_X8_finding ⟨Nat.le_of_ble_eq_true rfl, Nat.le_of_ble_eq_true rfl⟩) (zz_lt h0 (by decide)) (zz_c8 h0) rfl rfl hl.1 rfl (Nat.le_of_ble_eq_true rfl) dX8_takesIn_31 (fun r_4 M_5 => ?_)
    exact zz_iret C hr dX8_takesIn_34
  · refine zz_iload_n C dX8_takesIn_11 rfl (lv_at hl 2 rfl) ?_
    refine zz_callSi (As := [.int x2]) (rest := []) C (m_X8_isVat l E x2  M_2) (va_cwS 1 C.1.2.2.2.2 gX8_takesIn_X8_isVat rfl rfl rfl hdS_X8_isVat ⟨Nat.le_of_ble_eq_true rfl, Nat.le_of_ble_eq_true rfl⟩) rfl hl.1 rfl (Nat.le_of_ble_eq_true rfl) dX8_takesIn_12 (fun r_6 M_7 => ?_)
    refine zz_if_eq (tgt := 28) C dX8_takesIn_15 (by decide) (fun c_8 => ?_) (fun c_8 => ?_)
    · refine zz_aload_n C dX8_takesIn_28 rfl (lv_at hl 0 rfl) ?_
      refine zz_ldc (v := -1000000001) C (List.mem_of_getElem? (i := 2) rfl) dX8_takesIn_29 ?_
      refine zz_callVi (As := [.int (-1000000001 : Int32)]) (rest := []) C (m_X8_finding l E a0 (-1000000001 : Int32) h0 M_7) (cwV 1 C.1.2.2.2.2 gX8_takesIn_X8_finding rfl rfl rfl hdV_X8_finding ⟨Nat.le_of_ble_eq_true rfl, Nat.le_of_ble_eq_true rfl⟩) (zz_lt h0 (by decide)) (zz_c8 h0) rfl rfl hl.1 rfl (Nat.le_of_ble_eq_true rfl) dX8_takesIn_31 (fun r_9 M_10 => ?_)
      exact zz_iret C hr dX8_takesIn_34
    · refine zz_iload_n C dX8_takesIn_18 rfl (lv_at hl 3 rfl) ?_
      refine zz_iconst (v := 1) C dX8_takesIn_19 (by decide) ?_
      refine zz_bipush (v := 99) C dX8_takesIn_20 (by decide) ?_
      refine zz_callSi (As := [.int x3, .int (1 : Int32), .int (99 : Int32)]) (rest := []) C (m_X8_within l E x3 (1 : Int32) (99 : Int32)  M_7) (va_cwS 3 C.1.2.2.2.2 gX8_takesIn_X8_within rfl rfl rfl hdS_X8_within ⟨Nat.le_of_ble_eq_true rfl, Nat.le_of_ble_eq_true rfl⟩) rfl hl.1 rfl (Nat.le_of_ble_eq_true rfl) dX8_takesIn_22 (fun r_11 M_12 => ?_)
      refine zz_if_ne (tgt := 35) C dX8_takesIn_25 (by decide) (fun c_13 => ?_) (fun c_13 => ?_)
      · refine zz_aload_n C dX8_takesIn_28 rfl (lv_at hl 0 rfl) ?_
        refine zz_ldc (v := -1000000001) C (List.mem_of_getElem? (i := 2) rfl) dX8_takesIn_29 ?_
        refine zz_callVi (As := [.int (-1000000001 : Int32)]) (rest := []) C (m_X8_finding l E a0 (-1000000001 : Int32) h0 M_12) (cwV 1 C.1.2.2.2.2 gX8_takesIn_X8_finding rfl rfl rfl hdV_X8_finding ⟨Nat.le_of_ble_eq_true rfl, Nat.le_of_ble_eq_true rfl⟩) (zz_lt h0 (by decide)) (zz_c8 h0) rfl rfl hl.1 rfl (Nat.le_of_ble_eq_true rfl) dX8_takesIn_31 (fun r_19 M_20 => ?_)
        exact zz_iret C hr dX8_takesIn_34
      · refine zz_aload_n C dX8_takesIn_35 rfl (lv_at hl 0 rfl) ?_
        refine zz_get C (zz_lt h0 (by decide)) (zz_c8 h0) rfl in_X8_takesIn_X8 0 (by decide) (List.mem_of_getElem? (i := 1) rfl) rfl dX8_takesIn_36 ?_
        refine zz_get C (zz_lt (zz_s8_0 h0) (by decide)) (zz_c1 (zz_s8_0 h0)) rfl in_X8_takesIn_X1 0 (by decide) (List.mem_of_getElem? (i := 3) rfl) rfl dX8_takesIn_39 ?_
        refine zz_get C (zz_lt (zz_s1_0 (zz_s8_0 h0)) (by decide)) (zz_c7 (zz_s1_0 (zz_s8_0 h0))) rfl in_X8_takesIn_X7 3 (by decide) (List.mem_of_getElem? (i := 4) rfl) rfl dX8_takesIn_42 ?_
        refine zz_sipush (v := 200) C dX8_takesIn_45 (by decide) ?_
        refine zz_iadd C dX8_takesIn_48 ?_
        refine zz_sipush (v := 9999) C dX8_takesIn_49 (by decide) ?_
        refine zz_icmp_le (tgt := 62) C dX8_takesIn_52 (by decide) (fun c_14 => ?_) (fun c_14 => ?_)
        · refine zz_aload_n C dX8_takesIn_62 rfl (lv_at hl 0 rfl) ?_
          refine zz_get C (zz_lt h0 (by decide)) (zz_c8 h0) rfl in_X8_takesIn_X8 0 (by decide) (List.mem_of_getElem? (i := 1) rfl) rfl dX8_takesIn_63 ?_
          refine zz_get C (zz_lt (zz_s8_0 h0) (by decide)) (zz_c1 (zz_s8_0 h0)) rfl in_X8_takesIn_X1 1 (by decide) (List.mem_of_getElem? (i := 6) rfl) rfl dX8_takesIn_66 ?_
          refine zz_iload_n C dX8_takesIn_69 rfl (lv_at hl 1 rfl) ?_
          refine zz_aald (t := 2) (g := fun i => (1 + 7) + 1 + 2 * i) C (zz_lt (zz_s1_1 (zz_s8_0 h0)) (by decide)) (zz_c18 (zz_s1_1 (zz_s8_0 h0))) rfl dX8_takesIn_70 (fun b_15 => ?_)
          refine zz_astore (lv' := [(4, .ref (E.1 + ((1 + 7) + 1 + 2 * zz_n x1))), (0, .ref (E.1 + a0)), (1, .int x1), (2, .int x2), (3, .int x3)]) C dX8_takesIn_71 hl (by decide) rfl (fun ls hl => ?_)
          refine zz_aload_n C dX8_takesIn_73 rfl (lv_at hl 1 rfl) ?_
          refine zz_get C (zz_lt h0 (by decide)) (zz_c8 h0) rfl in_X8_takesIn_X8 3 (by decide) (List.mem_of_getElem? (i := 7) rfl) rfl dX8_takesIn_74 ?_
          refine zz_aload_n C dX8_takesIn_77 rfl (lv_at hl 1 rfl) ?_
          refine zz_get C (zz_lt h0 (by decide)) (zz_c8 h0) rfl in_X8_takesIn_X8 0 (by decide) (List.mem_of_getElem? (i := 1) rfl) rfl dX8_takesIn_78 ?_
          refine zz_get C (zz_lt (zz_s8_0 h0) (by decide)) (zz_c1 (zz_s8_0 h0)) rfl in_X8_takesIn_X1 0 (by decide) (List.mem_of_getElem? (i := 3) rfl) rfl dX8_takesIn_81 ?_
          refine zz_callVv (As := [.ref (E.1 + (1 + 1))]) (rest := []) C (m_X7_become l E 57 (1 + 1) (zz_s8_3 h0) (zz_s1_0 (zz_s8_0 h0)) M_12) (cwV 1 C.1.2.2.2.2 gX8_takesIn_X7_become rfl rfl rfl hdV_X7_become ⟨Nat.le_of_ble_eq_true rfl, Nat.le_of_ble_eq_true rfl⟩) (zz_lt (zz_s8_3 h0) (by decide)) (zz_c7 (zz_s8_3 h0)) rfl rfl hl.1 rfl (Nat.le_of_ble_eq_true rfl) dX8_takesIn_84 (fun _ M_16 => ?_)
          refine zz_iconst (v := 0) C dX8_takesIn_87 (by decide) ?_
          refine zz_istored (lv' := [(5, .int (0 : Int32)), (4, .ref (E.1 + ((1 + 7) + 1 + 2 * zz_n x1))), (0, .ref (E.1 + a0)), (1, .int x1), (2, .int x2), (3, .int x3)]) C dX8_takesIn_88 hl (by decide) rfl (fun ls hl => ?_)
          exact wb_X8_takesIn_90 C hr  zz_fuel a0 x2 x3 ((1 + 7) + 1 + 2 * zz_n x1) (0 : Int32) h0 (zz_e18 (zz_s1_1 (zz_s8_0 h0)) b_15) M_16 ls (lv_sub hl [2, 4, 5, 1, 0] rfl)
        · refine zz_aload_n C dX8_takesIn_55 rfl (lv_at hl 0 rfl) ?_
          refine zz_ldc (v := -1000000005) C (List.mem_of_getElem? (i := 5) rfl) dX8_takesIn_56 ?_
          refine zz_callVi (As := [.int (-1000000005 : Int32)]) (rest := []) C (m_X8_finding l E a0 (-1000000005 : Int32) h0 M_12) (cwV 1 C.1.2.2.2.2 gX8_takesIn_X8_finding rfl rfl rfl hdV_X8_finding ⟨Nat.le_of_ble_eq_true rfl, Nat.le_of_ble_eq_true rfl⟩) (zz_lt h0 (by decide)) (zz_c8 h0) rfl rfl hl.1 rfl (Nat.le_of_ble_eq_true rfl) dX8_takesIn_58 (fun r_17 M_18 => ?_)
          exact zz_iret C hr dX8_takesIn_61
