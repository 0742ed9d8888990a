-- X5_isLetter ('X5', 'isLetter', '(I)Z')
def f_X5_isLetter (x0 : Int32) (M : zz_M) : Option (Int32 × zz_M) := (if x0 < (97 : Int32) then some ((0 : Int32), M) else (if (122 : Int32) < x0 then some ((0 : Int32), M) else some ((1 : Int32), M)))
set_option maxRecDepth 100000 in
set_option maxHeartbeats 4000000 in
theorem m_X5_isLetter (l : Launch) (E : zz_E) (x0 : Int32)  (M : zz_M) : zz_Met (zz_pi E) l yX5_isLetter wsX5_isLetter 1 E [.int x0] M (f_X5_isLetter x0 M) := by
  refine zz_met (cc := cX5_isLetter) (nL := 1) (ret := (some .boolean)) (by decide) rfl (Nat.le_of_ble_eq_true rfl) ?_
  intro p e s m below meth c C hr ls hl
  have C : zz_C E RX5 cX5_isLetter 1 wsX5_isLetter p s m [.int x0].toArray meth c := C
  have hl : lv_has ls 1 [(0, .int x0)] := hl
  unfold f_X5_isLetter
  refine zz_iload_n C dX5_isLetter_0 rfl (lv_at hl 0 rfl) ?_
  refine zz_bipush (v := 97) C dX5_isLetter_1 (by decide) ?_
  refine zz_icmp_lt (tgt := 16) C dX5_isLetter_3 (by decide) (fun c_1 => ?_) (fun c_1 => ?_)
  · refine zz_iconst (v := 0) C dX5_isLetter_16 (by decide) ?_
    exact zz_zretl C (v := (0 : Int32)) rfl hr dX5_isLetter_17
  · refine zz_iload_n C dX5_isLetter_6 rfl (lv_at hl 0 rfl) ?_
    refine zz_bipush (v := 122) C dX5_isLetter_7 (by decide) ?_
    refine zz_icmp_gt (tgt := 16) C dX5_isLetter_9 (by decide) (fun c_2 => ?_) (fun c_2 => ?_)
    · refine zz_iconst (v := 0) C dX5_isLetter_16 (by decide) ?_
      exact zz_zretl C (v := (0 : Int32)) rfl hr dX5_isLetter_17
    · refine zz_iconst (v := 1) C dX5_isLetter_12 (by decide) ?_
      refine zz_goto (tgt := 17) C dX5_isLetter_13 (by decide) ?_
      exact zz_zretl C (v := (1 : Int32)) rfl hr dX5_isLetter_17
-- X5_isDigit ('X5', 'isDigit', '(I)Z')
def f_X5_isDigit (x0 : Int32) (M : zz_M) : Option (Int32 × zz_M) := (if x0 < (48 : Int32) then some ((0 : Int32), M) else (if (57 : Int32) < x0 then some ((0 : Int32), M) else some ((1 : Int32), M)))
set_option maxRecDepth 100000 in
set_option maxHeartbeats 4000000 in
theorem m_X5_isDigit (l : Launch) (E : zz_E) (x0 : Int32)  (M : zz_M) : zz_Met (zz_pi E) l yX5_isDigit wsX5_isDigit 1 E [.int x0] M (f_X5_isDigit x0 M) := by
  refine zz_met (cc := cX5_isDigit) (nL := 1) (ret := (some .boolean)) (by decide) rfl (Nat.le_of_ble_eq_true rfl) ?_
  intro p e s m below meth c C hr ls hl
  have C : zz_C E RX5 cX5_isDigit 1 wsX5_isDigit p s m [.int x0].toArray meth c := C
  have hl : lv_has ls 1 [(0, .int x0)] := hl
  unfold f_X5_isDigit
  refine zz_iload_n C dX5_isDigit_0 rfl (lv_at hl 0 rfl) ?_
  refine zz_bipush (v := 48) C dX5_isDigit_1 (by decide) ?_
  refine zz_icmp_lt (tgt := 16) C dX5_isDigit_3 (by decide) (fun c_1 => ?_) (fun c_1 => ?_)
  · refine zz_iconst (v := 0) C dX5_isDigit_16 (by decide) ?_
    exact zz_zretl C (v := (0 : Int32)) rfl hr dX5_isDigit_17
  · refine zz_iload_n C dX5_isDigit_6 rfl (lv_at hl 0 rfl) ?_
    refine zz_bipush (v := 57) C dX5_isDigit_7 (by decide) ?_
    refine zz_icmp_gt (tgt := 16) C dX5_isDigit_9 (by decide) (fun c_2 => ?_) (fun c_2 => ?_)
    · refine zz_iconst (v := 0) C dX5_isDigit_16 (by decide) ?_
      exact zz_zretl C (v := (0 : Int32)) rfl hr dX5_isDigit_17
    · refine zz_iconst (v := 1) C dX5_isDigit_12 (by decide) ?_
      refine zz_goto (tgt := 17) C dX5_isDigit_13 (by decide) ?_
      exact zz_zretl C (v := (1 : Int32)) rfl hr dX5_isDigit_17
-- X5_byteAt ('X5', 'byteAt', '(I)I')
theorem in_X5_byteAt_X4 : ∀ w ∈ u_ws RX4 TX4 2, w ∈ wsX5_byteAt := fun _ h => List.mem_cons_of_mem _ (List.mem_append_right _ h)
theorem in_X5_byteAt_X5 : ∀ w ∈ u_ws RX5 TX5 6, w ∈ wsX5_byteAt := fun _ h => List.mem_cons_of_mem _ (List.mem_append_left _ (List.mem_append_right _ h))
def f_X5_byteAt (a0 : Nat) (x1 : Int32) (M : zz_M) : Option (Int32 × zz_M) := (if x1 < 0 then some ((-1 : Int32), M) else (if (120 : Int32) ≤ x1 then some ((-1 : Int32), M) else (if zz_in x1 120 = true then some ((zz_i M (88 + 1) (zz_n x1)), M) else none)))
set_option maxRecDepth 100000 in
set_option maxHeartbeats 4000000 in
theorem m_X5_byteAt (l : Launch) (E : zz_E) (a0 : Nat) (x1 : Int32) (h0 : zz_sh a0 = 5) (M : zz_M) : zz_Met (zz_pi E) l yX5_byteAt wsX5_byteAt 1 E [.ref (E.1 + a0), .int x1] M (f_X5_byteAt a0 x1 M) := by
  refine zz_met (cc := cX5_byteAt) (nL := 2) (ret := (some .int)) (by decide) rfl (Nat.le_of_ble_eq_true rfl) ?_
  intro p e s m below meth c C hr ls hl
  have C : zz_C E RX5 cX5_byteAt 2 wsX5_byteAt p s m [.ref (E.1 + a0), .int x1].toArray meth c := C
  have hl : lv_has ls 2 [(0, .ref (E.1 + a0)), (1, .int x1)] := hl
  unfold f_X5_byteAt
  refine zz_iload_n C dX5_byteAt_0 rfl (lv_at hl 1 rfl) ?_
  refine zz_if_lt (tgt := 22) C dX5_byteAt_1 (by decide) (fun c_1 => ?_) (fun c_1 => ?_)
  · refine zz_iconst (v := -1) C dX5_byteAt_22 (by decide) ?_
    exact zz_iret C hr dX5_byteAt_23
  · refine zz_iload_n C dX5_byteAt_4 rfl (lv_at hl 1 rfl) ?_
    refine zz_bipush (v := 120) C dX5_byteAt_5 (by decide) ?_
    refine zz_icmp_ge (tgt := 22) C dX5_byteAt_7 (by decide) (fun c_2 => ?_) (fun c_2 => ?_)
    · refine zz_iconst (v := -1) C dX5_byteAt_22 (by decide) ?_
      exact zz_iret C hr dX5_byteAt_23
    · refine zz_aload_n C dX5_byteAt_10 rfl (lv_at hl 0 rfl) ?_
      refine zz_get C (zz_lt h0 (by decide)) (zz_c5 h0) rfl in_X5_byteAt_X5 0 (by decide) (List.mem_of_getElem? (i := 1) rfl) rfl dX5_byteAt_11 ?_
      refine zz_get C (zz_lt (zz_s5_0 h0) (by decide)) (zz_c4 (zz_s5_0 h0)) rfl in_X5_byteAt_X4 0 (by decide) (List.mem_of_getElem? (i := 2) rfl) rfl dX5_byteAt_14 ?_
      refine zz_iload_n C dX5_byteAt_17 rfl (lv_at hl 1 rfl) ?_
      refine zz_iald C (zz_lt (zz_s4_0 (zz_s5_0 h0)) (by decide)) (zz_c11 (zz_s4_0 (zz_s5_0 h0))) dX5_byteAt_18 ?_
      refine zz_goto (tgt := 23) C dX5_byteAt_19 (by decide) ?_
      exact zz_iret C hr dX5_byteAt_23
-- X5_passWord ('X5', 'passWord', '()V')
theorem in_X5_passWord_X4 : ∀ w ∈ u_ws RX4 TX4 2, w ∈ wsX5_passWord := fun _ h => List.mem_cons_of_mem _ (List.mem_append_right _ h)
theorem in_X5_passWord_X5 : ∀ w ∈ u_ws RX5 TX5 6, w ∈ wsX5_passWord := fun _ h => List.mem_cons_of_mem _ (List.mem_append_left _ (List.mem_append_right _ h))
theorem hdS_X5_isLetter : yX5_isLetter.cls ≠ "java/lang/invoke/MethodHandle" ∧ yX5_isLetter.cls ≠ "java/lang/invoke/VarHandle" ∧ (parseMethodDescriptor yX5_isLetter.desc).map (fun d => d.parameters.length) = some 1 := by decide +kernel
theorem hdV_X5_byteAt : yX5_byteAt.cls = RX5 ∧ yX5_byteAt.cls ≠ "java/lang/invoke/MethodHandle" ∧ yX5_byteAt.cls ≠ "java/lang/invoke/VarHandle" ∧ (parseMethodDescriptor yX5_byteAt.desc).map (fun d => d.parameters.length) = some 1 := by decide +kernel
def b_X5_passWord_0 : Nat → Nat → zz_M → Option (Unit × zz_M)
  | 0 => fun _ _ => none
  | n + 1 => fun a0 M => (if (zz_i M 88 1) ≤ (zz_i M a0 4) then some ((), M) else zz_bd (f_X5_byteAt a0 (zz_i M a0 4) M) (fun r_2 M_3 => zz_bd (f_X5_isLetter r_2 M_3) (fun r_4 M_5 => (if r_4 = 0 then some ((), M_5) else zz_w (zz_si M_5 a0 4 ((zz_i M_5 a0 4) + (1 : Int32))) (fun M_7 => (b_X5_passWord_0 n) a0 M_7)))))
set_option maxRecDepth 100000 in
set_option maxHeartbeats 4000000 in
theorem wb_X5_passWord_0 {p : Program} {l : Launch} {e : Env} {s : State} {m : MethodId} {args : Array Value} {below : List Frame} {meth : Method} {c : Code} {E : zz_E} (C : zz_C E RX5 cX5_passWord 1 wsX5_passWord p s m args meth c) (hr : meth.sig.returnType = none) : ∀ (n : Nat) (a0 : Nat) (ha0 : zz_sh a0 = 5) (M : zz_M) (ls : Array Slot), lv_has ls 1 [(0, .ref (E.1 + a0))] → zz_Z E p l e (zz_rm 2) s m args below meth c (zz_Q (zz_pv E) E below args s) (b_X5_passWord_0 n a0 M) M (F0 m 0 ls []) := by
  intro n
  induction n with
  | zero => intro a0 ha0 M ls hl; exact zz_none
  | succ n ih =>
    intro a0 ha0 M ls hl
    rw [b_X5_passWord_0]
    refine zz_aload_n C dX5_passWord_0 rfl (lv_at hl 0 rfl) ?_
    refine zz_get C (zz_lt ha0 (by decide)) (zz_c5 ha0) rfl in_X5_passWord_X5 4 (by decide) (List.mem_of_getElem? (i := 1) rfl) rfl dX5_passWord_1 ?_
    refine zz_aload_n C dX5_passWord_4 rfl (lv_at hl 0 rfl) ?_
    refine zz_get C (zz_lt ha0 (by decide)) (zz_c5 ha0) rfl in_X5_passWord_X5 0 (by decide) (List.mem_of_getElem? (i := 2) rfl) rfl dX5_passWord_5 ?_
    refine zz_get C (zz_lt (zz_s5_0 ha0) (by decide)) (zz_c4 (zz_s5_0 ha0)) rfl in_X5_passWord_X4 1 (by decide) (List.mem_of_getElem? (i := 3) rfl) rfl dX5_passWord_8 ?_
    refine zz_icmp_ge (tgt := 41) C dX5_passWord_11 (by decide) (fun c_1 => ?_) (fun c_1 => ?_)
    · exact zz_vret C hr dX5_passWord_41
    · refine zz_aload_n C dX5_passWord_14 rfl (lv_at hl 0 rfl) ?_
      refine zz_aload_n C dX5_passWord_15 rfl (lv_at hl 0 rfl) ?_
      refine zz_get C (zz_lt ha0 (by decide)) (zz_c5 ha0) rfl in_X5_passWord_X5 4 (by decide) (List.mem_of_getElem? (i := 1) rfl) rfl dX5_passWord_16 ?_
      refine zz_callVi (As := [.int (zz_i M a0 4)]) (rest := []) C (m_X5_byteAt l E a0 (zz_i M a0 4) ha0 M) (cwV 1 C.1.2.2.2.2 gX5_passWord_X5_byteAt rfl rfl rfl hdV_X5_byteAt ⟨Nat.le_of_ble_eq_true rfl, Nat.le_of_ble_eq_true rfl⟩) (zz_lt ha0 (by decide)) (zz_c5 ha0) rfl rfl hl.1 rfl (Nat.le_of_ble_eq_true rfl) dX5_passWord_19 (fun r_2 M_3 => ?_)
      refine zz_callSi (As := [.int r_2]) (rest := []) C (m_X5_isLetter l E r_2  M_3) (va_cwS 1 C.1.2.2.2.2 gX5_passWord_X5_isLetter rfl rfl rfl hdS_X5_isLetter ⟨Nat.le_of_ble_eq_true rfl, Nat.le_of_ble_eq_true rfl⟩) rfl hl.1 rfl (Nat.le_of_ble_eq_true rfl) dX5_passWord_22 (fun r_4 M_5 => ?_)
      refine zz_if_eq (tgt := 41) C dX5_passWord_25 (by decide) (fun c_6 => ?_) (fun c_6 => ?_)
      · exact zz_vret C hr dX5_passWord_41
      · refine zz_aload_n C dX5_passWord_28 rfl (lv_at hl 0 rfl) ?_
        refine zz_dup C dX5_passWord_29 rfl ?_
        refine zz_get C (zz_lt ha0 (by decide)) (zz_c5 ha0) rfl in_X5_passWord_X5 4 (by decide) (List.mem_of_getElem? (i := 1) rfl) rfl dX5_passWord_30 ?_
        refine zz_iconst (v := 1) C dX5_passWord_33 (by decide) ?_
        refine zz_iadd C dX5_passWord_34 ?_
        refine zz_put (M1 := zz_si M_5 a0 4 ((zz_i M_5 a0 4) + (1 : Int32))) C (zz_lt ha0 (by decide)) (zz_c5 ha0) rfl in_X5_passWord_X5 tyX5 tyX5_ok nmX5 4 (by decide) (List.mem_of_getElem? (i := 1) rfl) rfl rfl rfl (Nat.le_of_ble_eq_true rfl) (zz_p5_4 ha0) zz_cell_si dX5_passWord_35 (fun M_7 => ?_)
        refine zz_goto (tgt := 0) C dX5_passWord_38 (by decide) ?_
        exact ih a0 ha0 M_7 ls (lv_sub hl [0] rfl)
def f_X5_passWord (a0 : Nat) (M : zz_M) : Option (Unit × zz_M) := b_X5_passWord_0  zz_fuel a0 M
set_option maxRecDepth 100000 in
set_option maxHeartbeats 4000000 in
theorem m_X5_passWord (l : Launch) (E : zz_E) (a0 : Nat) (h0 : zz_sh a0 = 5) (M : zz_M) : zz_Met (zz_pv E) l yX5_passWord wsX5_passWord 2 E [.ref (E.1 + a0)] M (f_X5_passWord a0 M) := by
  refine zz_met (cc := cX5_passWord) (nL := 1) (ret := none) (by decide) rfl (Nat.le_of_ble_eq_true rfl) ?_
  intro p e s m below meth c C hr ls hl
  have C : zz_C E RX5 cX5_passWord 1 wsX5_passWord p s m [.ref (E.1 + a0)].toArray meth c := C
  have hl : lv_has ls 1 [(0, .ref (E.1 + a0))] := hl
  unfold f_X5_passWord
  exact wb_X5_passWord_0 C hr  zz_fuel a0 h0 M ls (lv_sub hl [0] rfl)
-- X5_passNumber ('X5', 'passNumber', '()V')
theorem in_X5_passNumber_X4 : ∀ w ∈ u_ws RX4 TX4 2, w ∈ wsX5_passNumber := fun _ h => List.mem_cons_of_mem _ (List.mem_append_right _ h)
theorem in_X5_passNumber_X5 : ∀ w ∈ u_ws RX5 TX5 6, w ∈ wsX5_passNumber := fun _ h => List.mem_cons_of_mem _ (List.mem_append_left _ (List.mem_append_right _ h))
theorem hdS_X5_isDigit : yX5_isDigit.cls ≠ "java/lang/invoke/MethodHandle" ∧ yX5_isDigit.cls ≠ "java/lang/invoke/VarHandle" ∧ (parseMethodDescriptor yX5_isDigit.desc).map (fun d => d.parameters.length) = some 1 := by decide +kernel
def b_X5_passNumber_5 : Nat → Nat → zz_M → Option (Unit × zz_M)
  | 0 => fun _ _ => none
  | n + 1 => fun a0 M => (if (zz_i M 88 1) ≤ (zz_i M a0 4) then some ((), M) else zz_bd (f_X5_byteAt a0 (zz_i M a0 4) M) (fun r_3 M_4 => zz_bd (f_X5_isDigit r_3 M_4) (fun r_5 M_6 => (if r_5 = 0 then some ((), M_6) else zz_bd (f_X5_byteAt a0 (zz_i M_6 a0 4) M_6) (fun r_8 M_9 => zz_w (zz_si M_9 a0 5 (if ((((10 : Int32) * (zz_i M_6 a0 5)) + r_8) - (48 : Int32)) < (100000 : Int32) then ((((10 : Int32) * (zz_i M_6 a0 5)) + r_8) - (48 : Int32)) else (100000 : Int32))) (fun M_10 => zz_w (zz_si M_10 a0 4 ((zz_i M_10 a0 4) + (1 : Int32))) (fun M_11 => (b_X5_passNumber_5 n) a0 M_11)))))))
set_option maxRecDepth 100000 in
set_option maxHeartbeats 4000000 in
theorem wb_X5_passNumber_5 {p : Program} {l : Launch} {e : Env} {s : State} {m : MethodId} {args : Array Value} {below : List Frame} {meth : Method} {c : Code} {E : zz_E} (C : zz_C E RX5 cX5_passNumber 1 wsX5_passNumber p s m args meth c) (hr : meth.sig.returnType = none) : ∀ (n : Nat) (a0 : Nat) (ha0 : zz_sh a0 = 5) (M : zz_M) (ls : Array Slot), lv_has ls 1 [(0, .ref (E.1 + a0))] → zz_Z E p l e (zz_rm 2) s m args below meth c (zz_Q (zz_pv E) E below args s) (b_X5_passNumber_5 n a0 M) M (F0 m 5 ls []) := by
  intro n
  induction n with
  | zero => intro a0 ha0 M ls hl; exact zz_none
  | succ n ih =>
    intro a0 ha0 M ls hl
    rw [b_X5_passNumber_5]
    refine zz_aload_n C dX5_passNumber_5 rfl (lv_at hl 0 rfl) ?_
    refine zz_get C (zz_lt ha0 (by decide)) (zz_c5 ha0) rfl in_X5_passNumber_X5 4 (by decide) (List.mem_of_getElem? (i := 2) rfl) rfl dX5_passNumber_6 ?_
    refine zz_aload_n C dX5_passNumber_9 rfl (lv_at hl 0 rfl) ?_
    refine zz_get C (zz_lt ha0 (by decide)) (zz_c5 ha0) rfl in_X5_passNumber_X5 0 (by decide) (List.mem_of_getElem? (i := 3) rfl) rfl dX5_passNumber_10 ?_
    refine zz_get C (zz_lt (zz_s5_0 ha0) (by decide)) (zz_c4 (zz_s5_0 ha0)) rfl in_X5_passNumber_X4 1 (by decide) (List.mem_of_getElem? (i := 4) rfl) rfl dX5_passNumber_13 ?_
    refine zz_icmp_ge (tgt := 74) C dX5_passNumber_16 (by decide) (fun c_2 => ?_) (fun c_2 => ?_)
    · exact zz_vret C hr dX5_passNumber_74
    · refine zz_aload_n C dX5_passNumber_19 rfl (lv_at hl 0 rfl) ?_
      refine zz_aload_n C dX5_passNumber_20 rfl (lv_at hl 0 rfl) ?_
      refine zz_get C (zz_lt ha0 (by decide)) (zz_c5 ha0) rfl in_X5_passNumber_X5 4 (by decide) (List.mem_of_getElem? (i := 2) rfl) rfl dX5_passNumber_21 ?_
      refine zz_callVi (As := [.int (zz_i M a0 4)]) (rest := []) C (m_X5_byteAt l E a0 (zz_i M a0 4) ha0 M) (cwV 1 C.1.2.2.2.2 gX5_passNumber_X5_byteAt rfl rfl rfl hdV_X5_byteAt ⟨Nat.le_of_ble_eq_true rfl, Nat.le_of_ble_eq_true rfl⟩) (zz_lt ha0 (by decide)) (zz_c5 ha0) rfl rfl hl.1 rfl (Nat.le_of_ble_eq_true rfl) dX5_passNumber_24 (fun r_3 M_4 => ?_)
      refine zz_callSi (As := [.int r_3]) (rest := []) C (m_X5_isDigit l E r_3  M_4) (va_cwS 1 C.1.2.2.2.2 gX5_passNumber_X5_isDigit rfl rfl rfl hdS_X5_isDigit ⟨Nat.le_of_ble_eq_true rfl, Nat.le_of_ble_eq_true rfl⟩) rfl hl.1 rfl (Nat.le_of_ble_eq_true rfl) dX5_passNumber_27 (fun r_5 M_6 => ?_)
      refine zz_if_eq (tgt := 74) C dX5_passNumber_30 (by decide) (fun c_7 => ?_) (fun c_7 => ?_)
      · exact zz_vret C hr dX5_passNumber_74
      · refine zz_aload_n C dX5_passNumber_33 rfl (lv_at hl 0 rfl) ?_
        refine zz_ldc (v := 100000) C (List.mem_of_getElem? (i := 5) rfl) dX5_passNumber_34 ?_
        refine zz_bipush (v := 10) C dX5_passNumber_36 (by decide) ?_
        refine zz_aload_n C dX5_passNumber_38 rfl (lv_at hl 0 rfl) ?_
        refine zz_get C (zz_lt ha0 (by decide)) (zz_c5 ha0) rfl in_X5_passNumber_X5 5 (by decide) (List.mem_of_getElem? (i := 1) rfl) rfl dX5_passNumber_39 ?_
        refine zz_imul C dX5_passNumber_42 ?_
        refine zz_aload_n C dX5_passNumber_43 rfl (lv_at hl 0 rfl) ?_
        refine zz_aload_n C dX5_passNumber_44 rfl (lv_at hl 0 rfl) ?_
        refine zz_get C (zz_lt ha0 (by decide)) (zz_c5 ha0) rfl in_X5_passNumber_X5 4 (by decide) (List.mem_of_getElem? (i := 2) rfl) rfl dX5_passNumber_45 ?_
        refine zz_callVi (As := [.int (zz_i M_6 a0 4)]) (rest := [.int ((10 : Int32) * (zz_i M_6 a0 5)), .int (100000 : Int32), .ref (E.1 + a0)]) C (m_X5_byteAt l E a0 (zz_i M_6 a0 4) ha0 M_6) (cwV 1 C.1.2.2.2.2 gX5_passNumber_X5_byteAt rfl rfl rfl hdV_X5_byteAt ⟨Nat.le_of_ble_eq_true rfl, Nat.le_of_ble_eq_true rfl⟩) (zz_lt ha0 (by decide)) (zz_c5 ha0) rfl rfl hl.1 rfl (Nat.le_of_ble_eq_true rfl) dX5_passNumber_48 (fun r_8 M_9 => ?_)
        refine zz_iadd C dX5_passNumber_51 ?_
        refine zz_bipush (v := 48) C dX5_passNumber_52 (by decide) ?_
        refine zz_isub C dX5_passNumber_54 ?_
        refine zz_mmin C hl.1 (List.mem_of_getElem? (i := 6) rfl) (List.mem_of_getElem? (i := 7) rfl) (List.mem_of_getElem? (i := 8) rfl) (List.mem_of_getElem? (i := 9) rfl) (Nat.le_of_ble_eq_true rfl) (Nat.le_of_ble_eq_true rfl) dX5_passNumber_55 ?_
        refine zz_put (M1 := zz_si M_9 a0 5 (if ((((10 : Int32) * (zz_i M_6 a0 5)) + r_8) - (48 : Int32)) < (100000 : Int32) then ((((10 : Int32) * (zz_i M_6 a0 5)) + r_8) - (48 : Int32)) else (100000 : Int32))) C (zz_lt ha0 (by decide)) (zz_c5 ha0) rfl in_X5_passNumber_X5 tyX5 tyX5_ok nmX5 5 (by decide) (List.mem_of_getElem? (i := 1) rfl) rfl rfl rfl (Nat.le_of_ble_eq_true rfl) (zz_p5_5 ha0) zz_cell_si dX5_passNumber_58 (fun M_10 => ?_)
        refine zz_aload_n C dX5_passNumber_61 rfl (lv_at hl 0 rfl) ?_
        refine zz_dup C dX5_passNumber_62 rfl ?_
        refine zz_get C (zz_lt ha0 (by decide)) (zz_c5 ha0) rfl in_X5_passNumber_X5 4 (by decide) (List.mem_of_getElem? (i := 2) rfl) rfl dX5_passNumber_63 ?_
        refine zz_iconst (v := 1) C dX5_passNumber_66 (by decide) ?_
        refine zz_iadd C dX5_passNumber_67 ?_
        refine zz_put (M1 := zz_si M_10 a0 4 ((zz_i M_10 a0 4) + (1 : Int32))) C (zz_lt ha0 (by decide)) (zz_c5 ha0) rfl in_X5_passNumber_X5 tyX5 tyX5_ok nmX5 4 (by decide) (List.mem_of_getElem? (i := 2) rfl) rfl rfl rfl (Nat.le_of_ble_eq_true rfl) (zz_p5_4 ha0) zz_cell_si dX5_passNumber_68 (fun M_11 => ?_)
        refine zz_goto (tgt := 5) C dX5_passNumber_71 (by decide) ?_
        exact ih a0 ha0 M_11 ls (lv_sub hl [0] rfl)
def f_X5_passNumber (a0 : Nat) (M : zz_M) : Option (Unit × zz_M) := zz_w (zz_si M a0 5 (0 : Int32)) (fun M_1 => b_X5_passNumber_5  zz_fuel a0 M_1)
set_option maxRecDepth 100000 in
set_option maxHeartbeats 4000000 in
theorem m_X5_passNumber (l : Launch) (E : zz_E) (a0 : Nat) (h0 : zz_sh a0 = 5) (M : zz_M) : zz_Met (zz_pv E) l yX5_passNumber wsX5_passNumber 2 E [.ref (E.1 + a0)] M (f_X5_passNumber a0 M) := by
  refine zz_met (cc := cX5_passNumber) (nL := 1) (ret := none) (by decide) rfl (Nat.le_of_ble_eq_true rfl) ?_
  intro p e s m below meth c C hr ls hl
  have C : zz_C E RX5 cX5_passNumber 1 wsX5_passNumber p s m [.ref (E.1 + a0)].toArray meth c := C
  have hl : lv_has ls 1 [(0, .ref (E.1 + a0))] := hl
  unfold f_X5_passNumber
  refine zz_aload_n C dX5_passNumber_0 rfl (lv_at hl 0 rfl) ?_
  refine zz_iconst (v := 0) C dX5_passNumber_1 (by decide) ?_
  refine zz_put (M1 := zz_si M a0 5 (0 : Int32)) C (zz_lt h0 (by decide)) (zz_c5 h0) rfl in_X5_passNumber_X5 tyX5 tyX5_ok nmX5 5 (by decide) (List.mem_of_getElem? (i := 1) rfl) rfl rfl rfl (Nat.le_of_ble_eq_true rfl) (zz_p5_5 h0) zz_cell_si dX5_passNumber_2 (fun M_1 => ?_)
  exact wb_X5_passNumber_5 C hr  zz_fuel a0 h0 M_1 ls (lv_sub hl [0] rfl)
-- X5_next ('X5', 'next', '()V')
theorem in_X5_next_X4 : ∀ w ∈ u_ws RX4 TX4 2, w ∈ wsX5_next := fun _ h => List.mem_cons_of_mem _ (List.mem_append_right _ h)
theorem in_X5_next_X5 : ∀ w ∈ u_ws RX5 TX5 6, w ∈ wsX5_next := fun _ h => List.mem_cons_of_mem _ (List.mem_append_left _ (List.mem_append_right _ h))
theorem hdV_X5_passNumber : yX5_passNumber.cls = RX5 ∧ yX5_passNumber.cls ≠ "java/lang/invoke/MethodHandle" ∧ yX5_passNumber.cls ≠ "java/lang/invoke/VarHandle" ∧ (parseMethodDescriptor yX5_passNumber.desc).map (fun d => d.parameters.length) = some 0 := by decide +kernel
theorem hdV_X5_passWord : yX5_passWord.cls = RX5 ∧ yX5_passWord.cls ≠ "java/lang/invoke/MethodHandle" ∧ yX5_passWord.cls ≠ "java/lang/invoke/VarHandle" ∧ (parseMethodDescriptor yX5_passWord.desc).map (fun d => d.parameters.length) = some 0 := by decide +kernel
def b_X5_next_149 (a0 : Nat) (st0 : Int32) (rt1 : Nat) (M : zz_M) : Option (Unit × zz_M) := zz_w (zz_si M rt1 2 st0) (fun M_27 => zz_w (zz_si M_27 a0 4 ((zz_i M_27 a0 4) + (1 : Int32))) (fun M_28 => some ((), M_28)))
set_option maxRecDepth 100000 in
set_option maxHeartbeats 4000000 in
theorem wb_X5_next_149 {p : Program} {l : Launch} {e : Env} {s : State} {m : MethodId} {args : Array Value} {below : List Frame} {meth : Method} {c : Code} {E : zz_E} (C : zz_C E RX5 cX5_next 1 wsX5_next p s m args meth c) (hr : meth.sig.returnType = none) : ∀ (a0 : Nat) (st0 : Int32) (rt1 : Nat) (ha0 : zz_sh a0 = 5) (hrt1 : zz_sh rt1 = 5) (M : zz_M) (ls : Array Slot), lv_has ls 1 [(0, .ref (E.1 + a0))] → zz_Z E p l e (zz_rm 3) s m args below meth c (zz_Q (zz_pv E) E below args s) (b_X5_next_149 a0 st0 rt1 M) M (F0 m 149 ls [.int st0, .ref (E.1 + rt1)]) := by
  intro a0 st0 rt1 ha0 hrt1 M ls hl
  unfold b_X5_next_149
  refine zz_put (M1 := zz_si M rt1 2 st0) C (zz_lt hrt1 (by decide)) (zz_c5 hrt1) rfl in_X5_next_X5 tyX5 tyX5_ok nmX5 2 (by decide) (List.mem_of_getElem? (i := 5) rfl) rfl rfl rfl (Nat.le_of_ble_eq_true rfl) (zz_p5_2 hrt1) zz_cell_si dX5_next_149 (fun M_27 => ?_)
  refine zz_aload_n C dX5_next_152 rfl (lv_at hl 0 rfl) ?_
  refine zz_dup C dX5_next_153 rfl ?_
  refine zz_get C (zz_lt ha0 (by decide)) (zz_c5 ha0) rfl in_X5_next_X5 4 (by decide) (List.mem_of_getElem? (i := 1) rfl) rfl dX5_next_154 ?_
  refine zz_iconst (v := 1) C dX5_next_157 (by decide) ?_
  refine zz_iadd C dX5_next_158 ?_
  refine zz_put (M1 := zz_si M_27 a0 4 ((zz_i M_27 a0 4) + (1 : Int32))) C (zz_lt ha0 (by decide)) (zz_c5 ha0) rfl in_X5_next_X5 tyX5 tyX5_ok nmX5 4 (by decide) (List.mem_of_getElem? (i := 1) rfl) rfl rfl rfl (Nat.le_of_ble_eq_true rfl) (zz_p5_4 ha0) zz_cell_si dX5_next_159 (fun M_28 => ?_)
  exact zz_vret C hr dX5_next_162
def b_X5_next_48 (a0 : Nat) (M : zz_M) : Option (Unit × zz_M) := zz_w (zz_si M a0 4 (zz_i M a0 3)) (fun M_7 => (if (zz_i M_7 a0 3) < (zz_i M_7 88 1) then zz_bd (f_X5_byteAt a0 (zz_i M_7 a0 3) M_7) (fun r_9 M_10 => zz_bd (f_X5_isLetter r_9 M_10) (fun r_11 M_12 => (if r_11 = 0 then zz_bd (f_X5_byteAt a0 (zz_i M_12 a0 3) M_12) (fun r_14 M_15 => zz_bd (f_X5_isDigit r_14 M_15) (fun r_16 M_17 => (if r_16 = 0 then zz_bd (f_X5_byteAt a0 (zz_i M_17 a0 3) M_17) (fun r_19 M_20 => (if r_19 = (59 : Int32) then b_X5_next_149  a0 (3 : Int32) a0 M_20 else b_X5_next_149  a0 (4 : Int32) a0 M_20)) else zz_w (zz_si M_17 a0 2 (2 : Int32)) (fun M_22 => zz_bd (f_X5_passNumber a0 M_22) (fun _ M_23 => some ((), M_23)))))) else zz_w (zz_si M_12 a0 2 (1 : Int32)) (fun M_24 => zz_bd (f_X5_passWord a0 M_24) (fun _ M_25 => some ((), M_25)))))) else zz_w (zz_si M_7 a0 2 (0 : Int32)) (fun M_26 => some ((), M_26))))
set_option maxRecDepth 100000 in
set_option maxHeartbeats 4000000 in
theorem wb_X5_next_48 {p : Program} {l : Launch} {e : Env} {s : State} {m : MethodId} {args : Array Value} {below : List Frame} {meth : Method} {c : Code} {E : zz_E} (C : zz_C E RX5 cX5_next 1 wsX5_next p s m args meth c) (hr : meth.sig.returnType = none) : ∀ (a0 : Nat) (ha0 : zz_sh a0 = 5) (M : zz_M) (ls : Array Slot), lv_has ls 1 [(0, .ref (E.1 + a0))] → zz_Z E p l e (zz_rm 3) s m args below meth c (zz_Q (zz_pv E) E below args s) (b_X5_next_48 a0 M) M (F0 m 48 ls []) := by
  intro a0 ha0 M ls hl
  unfold b_X5_next_48
  refine zz_aload_n C dX5_next_48 rfl (lv_at hl 0 rfl) ?_
  refine zz_aload_n C dX5_next_49 rfl (lv_at hl 0 rfl) ?_
  refine zz_get C (zz_lt ha0 (by decide)) (zz_c5 ha0) rfl in_X5_next_X5 3 (by decide) (List.mem_of_getElem? (i := 2) rfl) rfl dX5_next_50 ?_
  refine zz_put (M1 := zz_si M a0 4 (zz_i M a0 3)) C (zz_lt ha0 (by decide)) (zz_c5 ha0) rfl in_X5_next_X5 tyX5 tyX5_ok nmX5 4 (by decide) (List.mem_of_getElem? (i := 1) rfl) rfl rfl rfl (Nat.le_of_ble_eq_true rfl) (zz_p5_4 ha0) zz_cell_si dX5_next_53 (fun M_7 => ?_)
  refine zz_aload_n C dX5_next_56 rfl (lv_at hl 0 rfl) ?_
  refine zz_get C (zz_lt ha0 (by decide)) (zz_c5 ha0) rfl in_X5_next_X5 3 (by decide) (List.mem_of_getElem? (i := 2) rfl) rfl dX5_next_57 ?_
  refine zz_aload_n C dX5_next_60 rfl (lv_at hl 0 rfl) ?_
  refine zz_get C (zz_lt ha0 (by decide)) (zz_c5 ha0) rfl in_X5_next_X5 0 (by decide) (List.mem_of_getElem? (i := 3) rfl) rfl dX5_next_61 ?_
  refine zz_get C (zz_lt (zz_s5_0 ha0) (by decide)) (zz_c4 (zz_s5_0 ha0)) rfl in_X5_next_X4 1 (by decide) (List.mem_of_getElem? (i := 4) rfl) rfl dX5_next_64 ?_
  refine zz_icmp_lt (tgt := 78) C dX5_next_67 (by decide) (fun c_8 => ?_) (fun c_8 => ?_)
  · refine zz_aload_n C dX5_next_78 rfl (lv_at hl 0 rfl) ?_
    refine zz_aload_n C dX5_next_79 rfl (lv_at hl 0 rfl) ?_
    refine zz_get C (zz_lt ha0 (by decide)) (zz_c5 ha0) rfl in_X5_next_X5 3 (by decide) (List.mem_of_getElem? (i := 2) rfl) rfl dX5_next_80 ?_
    refine zz_callVi (As := [.int (zz_i M_7 a0 3)]) (rest := []) C (m_X5_byteAt l E a0 (zz_i M_7 a0 3) ha0 M_7) (cwV 1 C.1.2.2.2.2 gX5_next_X5_byteAt rfl rfl rfl hdV_X5_byteAt ⟨Nat.le_of_ble_eq_true rfl, Nat.le_of_ble_eq_true rfl⟩) (zz_lt ha0 (by decide)) (zz_c5 ha0) rfl rfl hl.1 rfl (Nat.le_of_ble_eq_true rfl) dX5_next_83 (fun r_9 M_10 => ?_)
    refine zz_callSi (As := [.int r_9]) (rest := []) C (m_X5_isLetter l E r_9  M_10) (va_cwS 1 C.1.2.2.2.2 gX5_next_X5_isLetter rfl rfl rfl hdS_X5_isLetter ⟨Nat.le_of_ble_eq_true rfl, Nat.le_of_ble_eq_true rfl⟩) rfl hl.1 rfl (Nat.le_of_ble_eq_true rfl) dX5_next_86 (fun r_11 M_12 => ?_)
    refine zz_if_eq (tgt := 104) C dX5_next_89 (by decide) (fun c_13 => ?_) (fun c_13 => ?_)
    · refine zz_aload_n C dX5_next_104 rfl (lv_at hl 0 rfl) ?_
      refine zz_aload_n C dX5_next_105 rfl (lv_at hl 0 rfl) ?_
      refine zz_get C (zz_lt ha0 (by decide)) (zz_c5 ha0) rfl in_X5_next_X5 3 (by decide) (List.mem_of_getElem? (i := 2) rfl) rfl dX5_next_106 ?_
      refine zz_callVi (As := [.int (zz_i M_12 a0 3)]) (rest := []) C (m_X5_byteAt l E a0 (zz_i M_12 a0 3) ha0 M_12) (cwV 1 C.1.2.2.2.2 gX5_next_X5_byteAt rfl rfl rfl hdV_X5_byteAt ⟨Nat.le_of_ble_eq_true rfl, Nat.le_of_ble_eq_true rfl⟩) (zz_lt ha0 (by decide)) (zz_c5 ha0) rfl rfl hl.1 rfl (Nat.le_of_ble_eq_true rfl) dX5_next_109 (fun r_14 M_15 => ?_)
      refine zz_callSi (As := [.int r_14]) (rest := []) C (m_X5_isDigit l E r_14  M_15) (va_cwS 1 C.1.2.2.2.2 gX5_next_X5_isDigit rfl rfl rfl hdS_X5_isDigit ⟨Nat.le_of_ble_eq_true rfl, Nat.le_of_ble_eq_true rfl⟩) rfl hl.1 rfl (Nat.le_of_ble_eq_true rfl) dX5_next_112 (fun r_16 M_17 => ?_)
      refine zz_if_eq (tgt := 130) C dX5_next_115 (by decide) (fun c_18 => ?_) (fun c_18 => ?_)
      · refine zz_aload_n C dX5_next_130 rfl (lv_at hl 0 rfl) ?_
        refine zz_aload_n C dX5_next_131 rfl (lv_at hl 0 rfl) ?_
        refine zz_aload_n C dX5_next_132 rfl (lv_at hl 0 rfl) ?_
        refine zz_get C (zz_lt ha0 (by decide)) (zz_c5 ha0) rfl in_X5_next_X5 3 (by decide) (List.mem_of_getElem? (i := 2) rfl) rfl dX5_next_133 ?_
        refine zz_callVi (As := [.int (zz_i M_17 a0 3)]) (rest := [.ref (E.1 + a0)]) C (m_X5_byteAt l E a0 (zz_i M_17 a0 3) ha0 M_17) (cwV 1 C.1.2.2.2.2 gX5_next_X5_byteAt rfl rfl rfl hdV_X5_byteAt ⟨Nat.le_of_ble_eq_true rfl, Nat.le_of_ble_eq_true rfl⟩) (zz_lt ha0 (by decide)) (zz_c5 ha0) rfl rfl hl.1 rfl (Nat.le_of_ble_eq_true rfl) dX5_next_136 (fun r_19 M_20 => ?_)
        refine zz_bipush (v := 59) C dX5_next_139 (by decide) ?_
        refine zz_icmp_ne (tgt := 148) C dX5_next_141 (by decide) (fun c_21 => ?_) (fun c_21 => ?_)
        · refine zz_iconst (v := 3) C dX5_next_144 (by decide) ?_
          refine zz_goto (tgt := 149) C dX5_next_145 (by decide) ?_
          exact wb_X5_next_149 C hr  a0 (3 : Int32) a0 ha0 ha0 M_20 ls (lv_sub hl [0] rfl)
        · refine zz_iconst (v := 4) C dX5_next_148 (by decide) ?_
          exact wb_X5_next_149 C hr  a0 (4 : Int32) a0 ha0 ha0 M_20 ls (lv_sub hl [0] rfl)
      · refine zz_aload_n C dX5_next_118 rfl (lv_at hl 0 rfl) ?_
        refine zz_iconst (v := 2) C dX5_next_119 (by decide) ?_
        refine zz_put (M1 := zz_si M_17 a0 2 (2 : Int32)) C (zz_lt ha0 (by decide)) (zz_c5 ha0) rfl in_X5_next_X5 tyX5 tyX5_ok nmX5 2 (by decide) (List.mem_of_getElem? (i := 5) rfl) rfl rfl rfl (Nat.le_of_ble_eq_true rfl) (zz_p5_2 ha0) zz_cell_si dX5_next_120 (fun M_22 => ?_)
        refine zz_aload_n C dX5_next_123 rfl (lv_at hl 0 rfl) ?_
        refine zz_callVv (As := []) (rest := []) C (m_X5_passNumber l E a0 ha0 M_22) (cwV 0 C.1.2.2.2.2 gX5_next_X5_passNumber rfl rfl rfl hdV_X5_passNumber ⟨Nat.le_of_ble_eq_true rfl, Nat.le_of_ble_eq_true rfl⟩) (zz_lt ha0 (by decide)) (zz_c5 ha0) rfl rfl hl.1 rfl (Nat.le_of_ble_eq_true rfl) dX5_next_124 (fun _ M_23 => ?_)
        refine zz_goto (tgt := 162) C dX5_next_127 (by decide) ?_
        exact zz_vret C hr dX5_next_162
    · refine zz_aload_n C dX5_next_92 rfl (lv_at hl 0 rfl) ?_
      refine zz_iconst (v := 1) C dX5_next_93 (by decide) ?_
      refine zz_put (M1 := zz_si M_12 a0 2 (1 : Int32)) C (zz_lt ha0 (by decide)) (zz_c5 ha0) rfl in_X5_next_X5 tyX5 tyX5_ok nmX5 2 (by decide) (List.mem_of_getElem? (i := 5) rfl) rfl rfl rfl (Nat.le_of_ble_eq_true rfl) (zz_p5_2 ha0) zz_cell_si dX5_next_94 (fun M_24 => ?_)
      refine zz_aload_n C dX5_next_97 rfl (lv_at hl 0 rfl) ?_
      refine zz_callVv (As := []) (rest := []) C (m_X5_passWord l E a0 ha0 M_24) (cwV 0 C.1.2.2.2.2 gX5_next_X5_passWord rfl rfl rfl hdV_X5_passWord ⟨Nat.le_of_ble_eq_true rfl, Nat.le_of_ble_eq_true rfl⟩) (zz_lt ha0 (by decide)) (zz_c5 ha0) rfl rfl hl.1 rfl (Nat.le_of_ble_eq_true rfl) dX5_next_98 (fun _ M_25 => ?_)
      refine zz_goto (tgt := 162) C dX5_next_101 (by decide) ?_
      exact zz_vret C hr dX5_next_162
  · refine zz_aload_n C dX5_next_70 rfl (lv_at hl 0 rfl) ?_
    refine zz_iconst (v := 0) C dX5_next_71 (by decide) ?_
    refine zz_put (M1 := zz_si M_7 a0 2 (0 : Int32)) C (zz_lt ha0 (by decide)) (zz_c5 ha0) rfl in_X5_next_X5 tyX5 tyX5_ok nmX5 2 (by decide) (List.mem_of_getElem? (i := 5) rfl) rfl rfl rfl (Nat.le_of_ble_eq_true rfl) (zz_p5_2 ha0) zz_cell_si dX5_next_72 (fun M_26 => ?_)
    refine zz_goto (tgt := 162) C dX5_next_75 (by decide) ?_
    exact zz_vret C hr dX5_next_162
def b_X5_next_8 : Nat → Nat → zz_M → Option (Unit × zz_M)
  | 0 => fun _ _ => none
  | n + 1 => fun a0 M => (if (zz_i M 88 1) ≤ (zz_i M a0 3) then b_X5_next_48  a0 M else zz_bd (f_X5_byteAt a0 (zz_i M a0 3) M) (fun r_3 M_4 => (if r_3 = (32 : Int32) then zz_w (zz_si M_4 a0 3 ((zz_i M_4 a0 3) + (1 : Int32))) (fun M_6 => (b_X5_next_8 n) a0 M_6) else b_X5_next_48  a0 M_4)))
set_option maxRecDepth 100000 in
set_option maxHeartbeats 4000000 in
theorem wb_X5_next_8 {p : Program} {l : Launch} {e : Env} {s : State} {m : MethodId} {args : Array Value} {below : List Frame} {meth : Method} {c : Code} {E : zz_E} (C : zz_C E RX5 cX5_next 1 wsX5_next p s m args meth c) (hr : meth.sig.returnType = none) : ∀ (n : Nat) (a0 : Nat) (ha0 : zz_sh a0 = 5) (M : zz_M) (ls : Array Slot), lv_has ls 1 [(0, .ref (E.1 + a0))] → zz_Z E p l e (zz_rm 3) s m args below meth c (zz_Q (zz_pv E) E below args s) (b_X5_next_8 n a0 M) M (F0 m 8 ls []) := by
  intro n
  induction n with
  | zero => intro a0 ha0 M ls hl; exact zz_none
  | succ n ih =>
    intro a0 ha0 M ls hl
    rw [b_X5_next_8]
    refine zz_aload_n C dX5_next_8 rfl (lv_at hl 0 rfl) ?_
    refine zz_get C (zz_lt ha0 (by decide)) (zz_c5 ha0) rfl in_X5_next_X5 3 (by decide) (List.mem_of_getElem? (i := 2) rfl) rfl dX5_next_9 ?_
    refine zz_aload_n C dX5_next_12 rfl (lv_at hl 0 rfl) ?_
    refine zz_get C (zz_lt ha0 (by decide)) (zz_c5 ha0) rfl in_X5_next_X5 0 (by decide) (List.mem_of_getElem? (i := 3) rfl) rfl dX5_next_13 ?_
    refine zz_get C (zz_lt (zz_s5_0 ha0) (by decide)) (zz_c4 (zz_s5_0 ha0)) rfl in_X5_next_X4 1 (by decide) (List.mem_of_getElem? (i := 4) rfl) rfl dX5_next_16 ?_
    refine zz_icmp_ge (tgt := 48) C dX5_next_19 (by decide) (fun c_2 => ?_) (fun c_2 => ?_)
    · exact wb_X5_next_48 C hr  a0 ha0 M ls (lv_sub hl [0] rfl)
    · refine zz_aload_n C dX5_next_22 rfl (lv_at hl 0 rfl) ?_
      refine zz_aload_n C dX5_next_23 rfl (lv_at hl 0 rfl) ?_
      refine zz_get C (zz_lt ha0 (by decide)) (zz_c5 ha0) rfl in_X5_next_X5 3 (by decide) (List.mem_of_getElem? (i := 2) rfl) rfl dX5_next_24 ?_
      refine zz_callVi (As := [.int (zz_i M a0 3)]) (rest := []) C (m_X5_byteAt l E a0 (zz_i M a0 3) ha0 M) (cwV 1 C.1.2.2.2.2 gX5_next_X5_byteAt rfl rfl rfl hdV_X5_byteAt ⟨Nat.le_of_ble_eq_true rfl, Nat.le_of_ble_eq_true rfl⟩) (zz_lt ha0 (by decide)) (zz_c5 ha0) rfl rfl hl.1 rfl (Nat.le_of_ble_eq_true rfl) dX5_next_27 (fun r_3 M_4 => ?_)
      refine zz_bipush (v := 32) C dX5_next_30 (by decide) ?_
      refine zz_icmp_ne (tgt := 48) C dX5_next_32 (by decide) (fun c_5 => ?_) (fun c_5 => ?_)
      · refine zz_aload_n C dX5_next_35 rfl (lv_at hl 0 rfl) ?_
        refine zz_dup C dX5_next_36 rfl ?_
        refine zz_get C (zz_lt ha0 (by decide)) (zz_c5 ha0) rfl in_X5_next_X5 3 (by decide) (List.mem_of_getElem? (i := 2) rfl) rfl dX5_next_37 ?_
        refine zz_iconst (v := 1) C dX5_next_40 (by decide) ?_
        refine zz_iadd C dX5_next_41 ?_
        refine zz_put (M1 := zz_si M_4 a0 3 ((zz_i M_4 a0 3) + (1 : Int32))) C (zz_lt ha0 (by decide)) (zz_c5 ha0) rfl in_X5_next_X5 tyX5 tyX5_ok nmX5 3 (by decide) (List.mem_of_getElem? (i := 2) rfl) rfl rfl rfl (Nat.le_of_ble_eq_true rfl) (zz_p5_3 ha0) zz_cell_si dX5_next_42 (fun M_6 => ?_)
        refine zz_goto (tgt := 8) C dX5_next_45 (by decide) ?_
        exact ih a0 ha0 M_6 ls (lv_sub hl [0] rfl)
      · exact wb_X5_next_48 C hr  a0 ha0 M_4 ls (lv_sub hl [0] rfl)
def f_X5_next (a0 : Nat) (M : zz_M) : Option (Unit × zz_M) := zz_w (zz_si M a0 3 (zz_i M a0 4)) (fun M_1 => b_X5_next_8  zz_fuel a0 M_1)
set_option maxRecDepth 100000 in
set_option maxHeartbeats 4000000 in
theorem m_X5_next (l : Launch) (E : zz_E) (a0 : Nat) (h0 : zz_sh a0 = 5) (M : zz_M) : zz_Met (zz_pv E) l yX5_next wsX5_next 3 E [.ref (E.1 + a0)] M (f_X5_next a0 M) := by
  refine zz_met (cc := cX5_next) (nL := 1) (ret := none) (by decide) rfl (Nat.le_of_ble_eq_true rfl) ?_
  intro p e s m below meth c C hr ls hl
  have C : zz_C E RX5 cX5_next 1 wsX5_next p s m [.ref (E.1 + a0)].toArray meth c := C
  have hl : lv_has ls 1 [(0, .ref (E.1 + a0))] := hl
  unfold f_X5_next
  refine zz_aload_n C dX5_next_0 rfl (lv_at hl 0 rfl) ?_
  refine zz_aload_n C dX5_next_1 rfl (lv_at hl 0 rfl) ?_
  refine zz_get C (zz_lt h0 (by decide)) (zz_c5 h0) rfl in_X5_next_X5 4 (by decide) (List.mem_of_getElem? (i := 1) rfl) rfl dX5_next_2 ?_
  refine zz_put (M1 := zz_si M a0 3 (zz_i M a0 4)) C (zz_lt h0 (by decide)) (zz_c5 h0) rfl in_X5_next_X5 tyX5 tyX5_ok nmX5 3 (by decide) (List.mem_of_getElem? (i := 2) rfl) rfl rfl rfl (Nat.le_of_ble_eq_true rfl) (zz_p5_3 h0) zz_cell_si dX5_next_5 (fun M_1 => ?_)
  exact wb_X5_next_8 C hr  zz_fuel a0 h0 M_1 ls (lv_sub hl [0] rfl)
-- X5_isWord ('X5', 'isWord', '(Ljava/lang/String;)Z')
theorem in_X5_isWord_X5 : ∀ w ∈ u_ws RX5 TX5 6, w ∈ wsX5_isWord := fun _ h => List.mem_cons_of_mem _ (List.mem_append_left _ (List.mem_append_right _ h))
theorem hdV_J0_charAt_5068e : yJ0_charAt_5068e.cls = RJ0 ∧ yJ0_charAt_5068e.cls ≠ "java/lang/invoke/MethodHandle" ∧ yJ0_charAt_5068e.cls ≠ "java/lang/invoke/VarHandle" ∧ (parseMethodDescriptor yJ0_charAt_5068e.desc).map (fun d => d.parameters.length) = some 1 := by decide +kernel
theorem hdV_J0_length_8abf5 : yJ0_length_8abf5.cls = RJ0 ∧ yJ0_length_8abf5.cls ≠ "java/lang/invoke/MethodHandle" ∧ yJ0_length_8abf5.cls ≠ "java/lang/invoke/VarHandle" ∧ (parseMethodDescriptor yJ0_length_8abf5.desc).map (fun d => d.parameters.length) = some 0 := by decide +kernel
def b_X5_isWord_28 : Nat → Nat → Nat → Int32 → zz_M → Option (Int32 × zz_M)
  | 0 => fun _ _ _ _ => none
  | n + 1 => fun a0 i1 x2 M => zz_bd (f_J0_length_8abf5 i1 M) (fun r_5 M_6 => (if r_5 ≤ x2 then some ((1 : Int32), M_6) else zz_bd (f_X5_byteAt a0 ((zz_i M_6 a0 3) + x2) M_6) (fun r_8 M_9 => zz_bd (f_J0_charAt_5068e i1 x2 M_9) (fun r_10 M_11 => (if r_8 = r_10 then zz_w (x2 + (1 : Int32)) (fun x2_13 => (b_X5_isWord_28 n) a0 i1 x2_13 M_11) else some ((0 : Int32), M_11))))))
set_option maxRecDepth 100000 in
set_option maxHeartbeats 4000000 in
theorem wb_X5_isWord_28 {p : Program} {l : Launch} {e : Env} {s : State} {m : MethodId} {args : Array Value} {below : List Frame} {meth : Method} {c : Code} {E : zz_E} (C : zz_C E RX5 cX5_isWord 3 wsX5_isWord p s m args meth c) (hr : meth.sig.returnType = (some .boolean)) : ∀ (n : Nat) (a0 : Nat) (i1 : Nat) (x2 : Int32) (ha0 : zz_sh a0 = 5) (hi1 : i1 < 17) (M : zz_M) (ls : Array Slot), lv_has ls 3 [(0, .ref (E.1 + a0)), (1, .ref (E.2.2.2.2.1 i1)), (2, .int x2)] → zz_Z E p l e (zz_rm 5) s m args below meth c (zz_Q (zz_pi E) E below args s) (b_X5_isWord_28 n a0 i1 x2 M) M (F0 m 28 ls []) := by
  intro n
  induction n with
  | zero => intro a0 i1 x2 ha0 hi1 M ls hl; exact zz_none
  | succ n ih =>
    intro a0 i1 x2 ha0 hi1 M ls hl
    rw [b_X5_isWord_28]
    refine zz_iload_n C dX5_isWord_28 rfl (lv_at hl 2 rfl) ?_
    refine zz_aload_n C dX5_isWord_29 rfl (lv_at hl 1 rfl) ?_
    refine zz_callXi (As := []) (rest := [.int x2]) C (m_J0_length_8abf5 l E i1 hi1 M) (cwV 0 C.1.2.2.2.2 gX5_isWord_J0_length_8abf5 rfl rfl rfl hdV_J0_length_8abf5 ⟨Nat.le_of_ble_eq_true rfl, Nat.le_of_ble_eq_true rfl⟩) hi1 rfl hl.1 rfl (Nat.le_of_ble_eq_true rfl) dX5_isWord_30 (fun r_5 M_6 _ => ?_)
    refine zz_icmp_ge (tgt := 62) C dX5_isWord_33 (by decide) (fun c_7 => ?_) (fun c_7 => ?_)
    · refine zz_iconst (v := 1) C dX5_isWord_62 (by decide) ?_
      exact zz_zretl C (v := (1 : Int32)) rfl hr dX5_isWord_63
    · refine zz_aload_n C dX5_isWord_36 rfl (lv_at hl 0 rfl) ?_
      refine zz_aload_n C dX5_isWord_37 rfl (lv_at hl 0 rfl) ?_
      refine zz_get C (zz_lt ha0 (by decide)) (zz_c5 ha0) rfl in_X5_isWord_X5 3 (by decide) (List.mem_of_getElem? (i := 3) rfl) rfl dX5_isWord_38 ?_
      refine zz_iload_n C dX5_isWord_41 rfl (lv_at hl 2 rfl) ?_
      refine zz_iadd C dX5_isWord_42 ?_
      refine zz_callVi (As := [.int ((zz_i M_6 a0 3) + x2)]) (rest := []) C (m_X5_byteAt l E a0 ((zz_i M_6 a0 3) + x2) ha0 M_6) (cwV 1 C.1.2.2.2.2 gX5_isWord_X5_byteAt rfl rfl rfl hdV_X5_byteAt ⟨Nat.le_of_ble_eq_true rfl, Nat.le_of_ble_eq_true rfl⟩) (zz_lt ha0 (by decide)) (zz_c5 ha0) rfl rfl hl.1 rfl (Nat.le_of_ble_eq_true rfl) dX5_isWord_43 (fun r_8 M_9 => ?_)
      refine zz_aload_n C dX5_isWord_46 rfl (lv_at hl 1 rfl) ?_
      refine zz_iload_n C dX5_isWord_47 rfl (lv_at hl 2 rfl) ?_
      refine zz_callXi (As := [.int x2]) (rest := [.int r_8]) C (m_J0_charAt_5068e l E i1 x2 hi1 M_9) (cwV 1 C.1.2.2.2.2 gX5_isWord_J0_charAt_5068e rfl rfl rfl hdV_J0_charAt_5068e ⟨Nat.le_of_ble_eq_true rfl, Nat.le_of_ble_eq_true rfl⟩) hi1 rfl hl.1 rfl (Nat.le_of_ble_eq_true rfl) dX5_isWord_48 (fun r_10 M_11 _ => ?_)
      refine zz_icmp_eq (tgt := 56) C dX5_isWord_51 (by decide) (fun c_12 => ?_) (fun c_12 => ?_)
      · refine zz_iinc (k9 := 2) (d := 1) C (fun x2_13 => [(2, .int x2_13), (0, .ref (E.1 + a0)), (1, .ref (E.2.2.2.2.1 i1))]) dX5_isWord_56 hl rfl (by decide) (by decide) (fun _ => rfl) (fun x2_13 ls hl => ?_)
        refine zz_goto (tgt := 28) C dX5_isWord_59 (by decide) ?_
        exact ih a0 i1 x2_13 ha0 hi1 M_11 ls (lv_sub hl [1, 2, 0] rfl)
      · refine zz_iconst (v := 0) C dX5_isWord_54 (by decide) ?_
        exact zz_zretl C (v := (0 : Int32)) rfl hr dX5_isWord_55
def f_X5_isWord (a0 : Nat) (i1 : Nat) (M : zz_M) : Option (Int32 × zz_M) := (if (zz_i M a0 2) = (1 : Int32) then zz_bd (f_J0_length_8abf5 i1 M) (fun r_2 M_3 => (if ((zz_i M a0 4) - (zz_i M a0 3)) = r_2 then b_X5_isWord_28  zz_fuel a0 i1 (0 : Int32) M_3 else some ((0 : Int32), M_3))) else some ((0 : Int32), M))
set_option maxRecDepth 100000 in
set_option maxHeartbeats 4000000 in
theorem m_X5_isWord (l : Launch) (E : zz_E) (a0 : Nat) (i1 : Nat) (h0 : zz_sh a0 = 5) (h1 : i1 < 17) (M : zz_M) : zz_Met (zz_pi E) l yX5_isWord wsX5_isWord 5 E [.ref (E.1 + a0), .ref (E.2.2.2.2.1 i1)] M (f_X5_isWord a0 i1 M) := by
  refine zz_met (cc := cX5_isWord) (nL := 3) (ret := (some .boolean)) (by decide) rfl (Nat.le_of_ble_eq_true rfl) ?_
  intro p e s m below meth c C hr ls hl
  have C : zz_C E RX5 cX5_isWord 3 wsX5_isWord p s m [.ref (E.1 + a0), .ref (E.2.2.2.2.1 i1)].toArray meth c := C
  have hl : lv_has ls 3 [(0, .ref (E.1 + a0)), (1, .ref (E.2.2.2.2.1 i1))] := hl
  unfold f_X5_isWord
  refine zz_aload_n C dX5_isWord_0 rfl (lv_at hl 0 rfl) ?_
  refine zz_get C (zz_lt h0 (by decide)) (zz_c5 h0) rfl in_X5_isWord_X5 2 (by decide) (List.mem_of_getElem? (i := 1) rfl) rfl dX5_isWord_1 ?_
  refine zz_iconst (v := 1) C dX5_isWord_4 (by decide) ?_
  refine zz_icmp_ne (tgt := 24) C dX5_isWord_5 (by decide) (fun c_1 => ?_) (fun c_1 => ?_)
  · refine zz_aload_n C dX5_isWord_8 rfl (lv_at hl 0 rfl) ?_
    refine zz_get C (zz_lt h0 (by decide)) (zz_c5 h0) rfl in_X5_isWord_X5 4 (by decide) (List.mem_of_getElem? (i := 2) rfl) rfl dX5_isWord_9 ?_
    refine zz_aload_n C dX5_isWord_12 rfl (lv_at hl 0 rfl) ?_
    refine zz_get C (zz_lt h0 (by decide)) (zz_c5 h0) rfl in_X5_isWord_X5 3 (by decide) (List.mem_of_getElem? (i := 3) rfl) rfl dX5_isWord_13 ?_
    refine zz_isub C dX5_isWord_16 ?_
    refine zz_aload_n C dX5_isWord_17 rfl (lv_at hl 1 rfl) ?_
    refine zz_callXi (As := []) (rest := [.int ((zz_i M a0 4) - (zz_i M a0 3))]) C (m_J0_length_8abf5 l E i1 h1 M) (cwV 0 C.1.2.2.2.2 gX5_isWord_J0_length_8abf5 rfl rfl rfl hdV_J0_length_8abf5 ⟨Nat.le_of_ble_eq_true rfl, Nat.le_of_ble_eq_true rfl⟩) h1 rfl hl.1 rfl (Nat.le_of_ble_eq_true rfl) dX5_isWord_18 (fun r_2 M_3 _ => ?_)
    refine zz_icmp_eq (tgt := 26) C dX5_isWord_21 (by decide) (fun c_4 => ?_) (fun c_4 => ?_)
    · refine zz_iconst (v := 0) C dX5_isWord_26 (by decide) ?_
      refine zz_istored_n (lv' := [(2, .int (0 : Int32)), (0, .ref (E.1 + a0)), (1, .ref (E.2.2.2.2.1 i1))]) C dX5_isWord_27 rfl hl (by decide) rfl (fun ls hl => ?_)
      exact wb_X5_isWord_28 C hr  zz_fuel a0 i1 (0 : Int32) h0 h1 M_3 ls (lv_sub hl [1, 2, 0] rfl)
    · refine zz_iconst (v := 0) C dX5_isWord_24 (by decide) ?_
      exact zz_zretl C (v := (0 : Int32)) rfl hr dX5_isWord_25
  · refine zz_iconst (v := 0) C dX5_isWord_24 (by decide) ?_
    exact zz_zretl C (v := (0 : Int32)) rfl hr dX5_isWord_25
-- X5_isNumber ('X5', 'isNumber', '(I)Z')
theorem in_X5_isNumber_X5 : ∀ w ∈ u_ws RX5 TX5 6, w ∈ wsX5_isNumber := fun _ h => List.mem_cons_of_mem _ (List.mem_append_right _ h)
def f_X5_isNumber (a0 : Nat) (x1 : Int32) (M : zz_M) : Option (Int32 × zz_M) := (if (zz_i M a0 2) = (2 : Int32) then (if x1 < (zz_i M a0 5) then some ((0 : Int32), M) else some ((1 : Int32), M)) else some ((0 : Int32), M))
set_option maxRecDepth 100000 in
set_option maxHeartbeats 4000000 in
theorem m_X5_isNumber (l : Launch) (E : zz_E) (a0 : Nat) (x1 : Int32) (h0 : zz_sh a0 = 5) (M : zz_M) : zz_Met (zz_pi E) l yX5_isNumber wsX5_isNumber 1 E [.ref (E.1 + a0), .int x1] M (f_X5_isNumber a0 x1 M) := by
  refine zz_met (cc := cX5_isNumber) (nL := 2) (ret := (some .boolean)) (by decide) rfl (Nat.le_of_ble_eq_true rfl) ?_
  intro p e s m below meth c C hr ls hl
  have C : zz_C E RX5 cX5_isNumber 2 wsX5_isNumber p s m [.ref (E.1 + a0), .int x1].toArray meth c := C
  have hl : lv_has ls 2 [(0, .ref (E.1 + a0)), (1, .int x1)] := hl
  unfold f_X5_isNumber
  refine zz_aload_n C dX5_isNumber_0 rfl (lv_at hl 0 rfl) ?_
  refine zz_get C (zz_lt h0 (by decide)) (zz_c5 h0) rfl in_X5_isNumber_X5 2 (by decide) (List.mem_of_getElem? (i := 1) rfl) rfl dX5_isNumber_1 ?_
  refine zz_iconst (v := 2) C dX5_isNumber_4 (by decide) ?_
  refine zz_icmp_ne (tgt := 20) C dX5_isNumber_5 (by decide) (fun c_1 => ?_) (fun c_1 => ?_)
  · refine zz_aload_n C dX5_isNumber_8 rfl (lv_at hl 0 rfl) ?_
    refine zz_get C (zz_lt h0 (by decide)) (zz_c5 h0) rfl in_X5_isNumber_X5 5 (by decide) (List.mem_of_getElem? (i := 2) rfl) rfl dX5_isNumber_9 ?_
    refine zz_iload_n C dX5_isNumber_12 rfl (lv_at hl 1 rfl) ?_
    refine zz_icmp_gt (tgt := 20) C dX5_isNumber_13 (by decide) (fun c_2 => ?_) (fun c_2 => ?_)
    · refine zz_iconst (v := 0) C dX5_isNumber_20 (by decide) ?_
      exact zz_zretl C (v := (0 : Int32)) rfl hr dX5_isNumber_21
    · refine zz_iconst (v := 1) C dX5_isNumber_16 (by decide) ?_
      refine zz_goto (tgt := 21) C dX5_isNumber_17 (by decide) ?_
      exact zz_zretl C (v := (1 : Int32)) rfl hr dX5_isNumber_21
  · refine zz_iconst (v := 0) C dX5_isNumber_20 (by decide) ?_
    exact zz_zretl C (v := (0 : Int32)) rfl hr dX5_isNumber_21
-- X5_skips ('X5', 'skips', '(Ljava/lang/String;)Z')
theorem hdV_X5_isWord : yX5_isWord.cls = RX5 ∧ yX5_isWord.cls ≠ "java/lang/invoke/MethodHandle" ∧ yX5_isWord.cls ≠ "java/lang/invoke/VarHandle" ∧ (parseMethodDescriptor yX5_isWord.desc).map (fun d => d.parameters.length) = some 1 := by decide +kernel
theorem hdV_X5_next : yX5_next.cls = RX5 ∧ yX5_next.cls ≠ "java/lang/invoke/MethodHandle" ∧ yX5_next.cls ≠ "java/lang/invoke/VarHandle" ∧ (parseMethodDescriptor yX5_next.desc).map (fun d => d.parameters.length) = some 0 := by decide +kernel
def f_X5_skips (a0 : Nat) (i1 : Nat) (M : zz_M) : Option (Int32 × zz_M) := zz_bd (f_X5_isWord a0 i1 M) (fun r_1 M_2 => (if r_1 = 0 then some ((0 : Int32), M_2) else zz_bd (f_X5_next a0 M_2) (fun _ M_4 => some ((1 : Int32), M_4))))
set_option maxRecDepth 100000 in
set_option maxHeartbeats 4000000 in
theorem m_X5_skips (l : Launch) (E : zz_E) (a0 : Nat) (i1 : Nat) (h0 : zz_sh a0 = 5) (h1 : i1 < 17) (M : zz_M) : zz_Met (zz_pi E) l yX5_skips wsX5_skips 6 E [.ref (E.1 + a0), .ref (E.2.2.2.2.1 i1)] M (f_X5_skips a0 i1 M) := by
  refine zz_met (cc := cX5_skips) (nL := 2) (ret := (some .boolean)) (by decide) rfl (Nat.le_of_ble_eq_true rfl) ?_
  intro p e s m below meth c C hr ls hl
  have C : zz_C E RX5 cX5_skips 2 wsX5_skips p s m [.ref (E.1 + a0), .ref (E.2.2.2.2.1 i1)].toArray meth c := C
  have hl : lv_has ls 2 [(0, .ref (E.1 + a0)), (1, .ref (E.2.2.2.2.1 i1))] := hl
  unfold f_X5_skips
  refine zz_aload_n C dX5_skips_0 rfl (lv_at hl 0 rfl) ?_
  refine zz_aload_n C dX5_skips_1 rfl (lv_at hl 1 rfl) ?_
  refine zz_callVi (As := [.ref (E.2.2.2.2.1 i1)]) (rest := []) C (m_X5_isWord l E a0 i1 h0 h1 M) (cwV 1 C.1.2.2.2.2 gX5_skips_X5_isWord rfl rfl rfl hdV_X5_isWord ⟨Nat.le_of_ble_eq_true rfl, Nat.le_of_ble_eq_true rfl⟩) (zz_lt h0 (by decide)) (zz_c5 h0) rfl rfl hl.1 rfl (Nat.le_of_ble_eq_true rfl) dX5_skips_2 (fun r_1 M_2 => ?_)
  refine zz_if_ne (tgt := 10) C dX5_skips_5 (by decide) (fun c_3 => ?_) (fun c_3 => ?_)
  · refine zz_iconst (v := 0) C dX5_skips_8 (by decide) ?_
    exact zz_zretl C (v := (0 : Int32)) rfl hr dX5_skips_9
  · refine zz_aload_n C dX5_skips_10 rfl (lv_at hl 0 rfl) ?_
    refine zz_callVv (As := []) (rest := []) C (m_X5_next l E a0 h0 M_2) (cwV 0 C.1.2.2.2.2 gX5_skips_X5_next rfl rfl rfl hdV_X5_next ⟨Nat.le_of_ble_eq_true rfl, Nat.le_of_ble_eq_true rfl⟩) (zz_lt h0 (by decide)) (zz_c5 h0) rfl rfl hl.1 rfl (Nat.le_of_ble_eq_true rfl) dX5_skips_11 (fun _ M_4 => ?_)
    refine zz_iconst (v := 1) C dX5_skips_14 (by decide) ?_
    exact zz_zretl C (v := (1 : Int32)) rfl hr dX5_skips_15
-- X5_kindNamed ('X5', 'kindNamed', '()I')
def f_X5_kindNamed (a0 : Nat) (M : zz_M) : Option (Int32 × zz_M) := zz_bd (f_X5_isWord a0 0 M) (fun r_1 M_2 => (if r_1 = 0 then zz_bd (f_X5_isWord a0 1 M_2) (fun r_4 M_5 => (if r_4 = 0 then zz_bd (f_X5_isWord a0 2 M_5) (fun r_7 M_8 => (if r_7 = 0 then zz_bd (f_X5_isWord a0 3 M_8) (fun r_10 M_11 => (if r_10 = 0 then zz_bd (f_X5_isWord a0 4 M_11) (fun r_13 M_14 => (if r_13 = 0 then zz_bd (f_X5_isWord a0 5 M_14) (fun r_16 M_17 => (if r_16 = 0 then some ((-1 : Int32), M_17) else some ((5 : Int32), M_17))) else some ((4 : Int32), M_14))) else some ((3 : Int32), M_11))) else some ((2 : Int32), M_8))) else some ((1 : Int32), M_5))) else some ((0 : Int32), M_2)))
set_option maxRecDepth 100000 in
set_option maxHeartbeats 4000000 in
theorem m_X5_kindNamed (l : Launch) (E : zz_E) (a0 : Nat) (h0 : zz_sh a0 = 5) (M : zz_M) : zz_Met (zz_pi E) l yX5_kindNamed wsX5_kindNamed 6 E [.ref (E.1 + a0)] M (f_X5_kindNamed a0 M) := by
  refine zz_met (cc := cX5_kindNamed) (nL := 1) (ret := (some .int)) (by decide) rfl (Nat.le_of_ble_eq_true rfl) ?_
  intro p e s m below meth c C hr ls hl
  have C : zz_C E RX5 cX5_kindNamed 1 wsX5_kindNamed p s m [.ref (E.1 + a0)].toArray meth c := C
  have hl : lv_has ls 1 [(0, .ref (E.1 + a0))] := hl
  unfold f_X5_kindNamed
  refine zz_aload_n C dX5_kindNamed_0 rfl (lv_at hl 0 rfl) ?_
  refine zz_ldcs 0 C (by decide) dX5_kindNamed_1 ?_
  refine zz_callVi (As := [.ref (E.2.2.2.2.1 0)]) (rest := []) C (m_X5_isWord l E a0 0 h0 (by decide) M) (cwV 1 C.1.2.2.2.2 gX5_kindNamed_X5_isWord rfl rfl rfl hdV_X5_isWord ⟨Nat.le_of_ble_eq_true rfl, Nat.le_of_ble_eq_true rfl⟩) (zz_lt h0 (by decide)) (zz_c5 h0) rfl rfl hl.1 rfl (Nat.le_of_ble_eq_true rfl) dX5_kindNamed_3 (fun r_1 M_2 => ?_)
  refine zz_if_eq (tgt := 11) C dX5_kindNamed_6 (by decide) (fun c_3 => ?_) (fun c_3 => ?_)
  · refine zz_aload_n C dX5_kindNamed_11 rfl (lv_at hl 0 rfl) ?_
    refine zz_ldcs 1 C (by decide) dX5_kindNamed_12 ?_
    refine zz_callVi (As := [.ref (E.2.2.2.2.1 1)]) (rest := []) C (m_X5_isWord l E a0 1 h0 (by decide) M_2) (cwV 1 C.1.2.2.2.2 gX5_kindNamed_X5_isWord rfl rfl rfl hdV_X5_isWord ⟨Nat.le_of_ble_eq_true rfl, Nat.le_of_ble_eq_true rfl⟩) (zz_lt h0 (by decide)) (zz_c5 h0) rfl rfl hl.1 rfl (Nat.le_of_ble_eq_true rfl) dX5_kindNamed_14 (fun r_4 M_5 => ?_)
    refine zz_if_eq (tgt := 22) C dX5_kindNamed_17 (by decide) (fun c_6 => ?_) (fun c_6 => ?_)
    · refine zz_aload_n C dX5_kindNamed_22 rfl (lv_at hl 0 rfl) ?_
      refine zz_ldcs 2 C (by decide) dX5_kindNamed_23 ?_
      refine zz_callVi (As := [.ref (E.2.2.2.2.1 2)]) (rest := []) C (m_X5_isWord l E a0 2 h0 (by decide) M_5) (cwV 1 C.1.2.2.2.2 gX5_kindNamed_X5_isWord rfl rfl rfl hdV_X5_isWord ⟨Nat.le_of_ble_eq_true rfl, Nat.le_of_ble_eq_true rfl⟩) (zz_lt h0 (by decide)) (zz_c5 h0) rfl rfl hl.1 rfl (Nat.le_of_ble_eq_true rfl) dX5_kindNamed_25 (fun r_7 M_8 => ?_)
      refine zz_if_eq (tgt := 33) C dX5_kindNamed_28 (by decide) (fun c_9 => ?_) (fun c_9 => ?_)
      · refine zz_aload_n C dX5_kindNamed_33 rfl (lv_at hl 0 rfl) ?_
        refine zz_ldcs 3 C (by decide) dX5_kindNamed_34 ?_
        refine zz_callVi (As := [.ref (E.2.2.2.2.1 3)]) (rest := []) C (m_X5_isWord l E a0 3 h0 (by decide) M_8) (cwV 1 C.1.2.2.2.2 gX5_kindNamed_X5_isWord rfl rfl rfl hdV_X5_isWord ⟨Nat.le_of_ble_eq_true rfl, Nat.le_of_ble_eq_true rfl⟩) (zz_lt h0 (by decide)) (zz_c5 h0) rfl rfl hl.1 rfl (Nat.le_of_ble_eq_true rfl) dX5_kindNamed_36 (fun r_10 M_11 => ?_)
        refine zz_if_eq (tgt := 44) C dX5_kindNamed_39 (by decide) (fun c_12 => ?_) (fun c_12 => ?_)
        · refine zz_aload_n C dX5_kindNamed_44 rfl (lv_at hl 0 rfl) ?_
          refine zz_ldcs 4 C (by decide) dX5_kindNamed_45 ?_
          refine zz_callVi (As := [.ref (E.2.2.2.2.1 4)]) (rest := []) C (m_X5_isWord l E a0 4 h0 (by decide) M_11) (cwV 1 C.1.2.2.2.2 gX5_kindNamed_X5_isWord rfl rfl rfl hdV_X5_isWord ⟨Nat.le_of_ble_eq_true rfl, Nat.le_of_ble_eq_true rfl⟩) (zz_lt h0 (by decide)) (zz_c5 h0) rfl rfl hl.1 rfl (Nat.le_of_ble_eq_true rfl) dX5_kindNamed_47 (fun r_13 M_14 => ?_)
          refine zz_if_eq (tgt := 55) C dX5_kindNamed_50 (by decide) (fun c_15 => ?_) (fun c_15 => ?_)
          · refine zz_aload_n C dX5_kindNamed_55 rfl (lv_at hl 0 rfl) ?_
            refine zz_ldcs 5 C (by decide) dX5_kindNamed_56 ?_
            refine zz_callVi (As := [.ref (E.2.2.2.2.1 5)]) (rest := []) C (m_X5_isWord l E a0 5 h0 (by decide) M_14) (cwV 1 C.1.2.2.2.2 gX5_kindNamed_X5_isWord rfl rfl rfl hdV_X5_isWord ⟨Nat.le_of_ble_eq_true rfl, Nat.le_of_ble_eq_true rfl⟩) (zz_lt h0 (by decide)) (zz_c5 h0) rfl rfl hl.1 rfl (Nat.le_of_ble_eq_true rfl) dX5_kindNamed_58 (fun r_16 M_17 => ?_)
            refine zz_if_eq (tgt := 68) C dX5_kindNamed_61 (by decide) (fun c_18 => ?_) (fun c_18 => ?_)
            · refine zz_iconst (v := -1) C dX5_kindNamed_68 (by decide) ?_
              exact zz_iret C hr dX5_kindNamed_69
            · refine zz_iconst (v := 5) C dX5_kindNamed_64 (by decide) ?_
              refine zz_goto (tgt := 69) C dX5_kindNamed_65 (by decide) ?_
              exact zz_iret C hr dX5_kindNamed_69
          · refine zz_iconst (v := 4) C dX5_kindNamed_53 (by decide) ?_
            exact zz_iret C hr dX5_kindNamed_54
        · refine zz_iconst (v := 3) C dX5_kindNamed_42 (by decide) ?_
          exact zz_iret C hr dX5_kindNamed_43
      · refine zz_iconst (v := 2) C dX5_kindNamed_31 (by decide) ?_
        exact zz_iret C hr dX5_kindNamed_32
    · refine zz_iconst (v := 1) C dX5_kindNamed_20 (by decide) ?_
      exact zz_iret C hr dX5_kindNamed_21
  · refine zz_iconst (v := 0) C dX5_kindNamed_9 (by decide) ?_
    exact zz_iret C hr dX5_kindNamed_10
-- X5_newCandle ('X5', 'newCandle', '(I)Z')
theorem in_X5_newCandle_X5 : ∀ w ∈ u_ws RX5 TX5 6, w ∈ wsX5_newCandle := fun _ h => List.mem_cons_of_mem _ (List.mem_append_left _ (List.mem_append_left _ (List.mem_append_left _ (List.mem_append_right _ h))))
def f_X5_newCandle (a0 : Nat) (x1 : Int32) (M : zz_M) : Option (Int32 × zz_M) := zz_bd (f_X1_addCandle (a0 + 1) x1 M) (fun r_1 M_2 => (if r_1 = 0 then some ((0 : Int32), M_2) else zz_bd (f_X5_next a0 M_2) (fun _ M_4 => some ((1 : Int32), M_4))))
set_option maxRecDepth 100000 in
set_option maxHeartbeats 4000000 in
theorem m_X5_newCandle (l : Launch) (E : zz_E) (a0 : Nat) (x1 : Int32) (h0 : zz_sh a0 = 5) (M : zz_M) : zz_Met (zz_pi E) l yX5_newCandle wsX5_newCandle 4 E [.ref (E.1 + a0), .int x1] M (f_X5_newCandle a0 x1 M) := by
  refine zz_met (cc := cX5_newCandle) (nL := 2) (ret := (some .boolean)) (by decide) rfl (Nat.le_of_ble_eq_true rfl) ?_
  intro p e s m below meth c C hr ls hl
  have C : zz_C E RX5 cX5_newCandle 2 wsX5_newCandle p s m [.ref (E.1 + a0), .int x1].toArray meth c := C
  have hl : lv_has ls 2 [(0, .ref (E.1 + a0)), (1, .int x1)] := hl
  unfold f_X5_newCandle
  refine zz_aload_n C dX5_newCandle_0 rfl (lv_at hl 0 rfl) ?_
  refine zz_get C (zz_lt h0 (by decide)) (zz_c5 h0) rfl in_X5_newCandle_X5 1 (by decide) (List.mem_of_getElem? (i := 1) rfl) rfl dX5_newCandle_1 ?_
  refine zz_iload_n C dX5_newCandle_4 rfl (lv_at hl 1 rfl) ?_
  refine zz_callVi (As := [.int x1]) (rest := []) C (m_X1_addCandle l E (a0 + 1) x1 (zz_s5_1 h0) M) (cwV 1 C.1.2.2.2.2 gX5_newCandle_X1_addCandle rfl rfl rfl hdV_X1_addCandle ⟨Nat.le_of_ble_eq_true rfl, Nat.le_of_ble_eq_true rfl⟩) (zz_lt (zz_s5_1 h0) (by decide)) (zz_c1 (zz_s5_1 h0)) rfl rfl hl.1 rfl (Nat.le_of_ble_eq_true rfl) dX5_newCandle_5 (fun r_1 M_2 => ?_)
  refine zz_if_ne (tgt := 13) C dX5_newCandle_8 (by decide) (fun c_3 => ?_) (fun c_3 => ?_)
  · refine zz_iconst (v := 0) C dX5_newCandle_11 (by decide) ?_
    exact zz_zretl C (v := (0 : Int32)) rfl hr dX5_newCandle_12
  · refine zz_aload_n C dX5_newCandle_13 rfl (lv_at hl 0 rfl) ?_
    refine zz_callVv (As := []) (rest := []) C (m_X5_next l E a0 h0 M_2) (cwV 0 C.1.2.2.2.2 gX5_newCandle_X5_next rfl rfl rfl hdV_X5_next ⟨Nat.le_of_ble_eq_true rfl, Nat.le_of_ble_eq_true rfl⟩) (zz_lt h0 (by decide)) (zz_c5 h0) rfl rfl hl.1 rfl (Nat.le_of_ble_eq_true rfl) dX5_newCandle_14 (fun _ M_4 => ?_)
    refine zz_iconst (v := 1) C dX5_newCandle_17 (by decide) ?_
    exact zz_zretl C (v := (1 : Int32)) rfl hr dX5_newCandle_18
-- X5_setsPart ('X5', 'setsPart', '(LFortyDips$Vat;I)Z')
theorem in_X5_setsPart_X5 : ∀ w ∈ u_ws RX5 TX5 6, w ∈ wsX5_setsPart := fun _ h => List.mem_cons_of_mem _ (List.mem_append_left _ (List.mem_append_left _ (List.mem_append_right _ h)))
theorem hdV_X5_isNumber : yX5_isNumber.cls = RX5 ∧ yX5_isNumber.cls ≠ "java/lang/invoke/MethodHandle" ∧ yX5_isNumber.cls ≠ "java/lang/invoke/VarHandle" ∧ (parseMethodDescriptor yX5_isNumber.desc).map (fun d => d.parameters.length) = some 1 := by decide +kernel
def f_X5_setsPart (a0 : Nat) (a1 : Nat) (x2 : Int32) (M : zz_M) : Option (Int32 × zz_M) := (if zz_in x2 4 = true then zz_bd (f_X5_isNumber a0 (zz_mov.getD (zz_n x2) 0) M) (fun r_1 M_2 => (if r_1 = 0 then some ((0 : Int32), M_2) else zz_bd (f_X6_setPart a1 x2 (zz_i M_2 a0 5) M_2) (fun _ M_4 => zz_bd (f_X5_next a0 M_4) (fun _ M_5 => some ((1 : Int32), M_5))))) else none)
set_option maxRecDepth 100000 in
set_option maxHeartbeats 4000000 in
theorem m_X5_setsPart (l : Launch) (E : zz_E) (a0 : Nat) (a1 : Nat) (x2 : Int32) (h0 : zz_sh a0 = 5) (h1 : zz_sh a1 = 6) (M : zz_M) : zz_Met (zz_pi E) l yX5_setsPart wsX5_setsPart 4 E [.ref (E.1 + a0), .ref (E.1 + a1), .int x2] M (f_X5_setsPart a0 a1 x2 M) := by
  refine zz_met (cc := cX5_setsPart) (nL := 3) (ret := (some .boolean)) (by decide) rfl (Nat.le_of_ble_eq_true rfl) ?_
  intro p e s m below meth c C hr ls hl
  have C : zz_C E RX5 cX5_setsPart 3 wsX5_setsPart p s m [.ref (E.1 + a0), .ref (E.1 + a1), .int x2].toArray meth c := C
  have hl : lv_has ls 3 [(0, .ref (E.1 + a0)), (1, .ref (E.1 + a1)), (2, .int x2)] := hl
  unfold f_X5_setsPart
  refine zz_aload_n C dX5_setsPart_0 rfl (lv_at hl 0 rfl) ?_
  refine zz_getsN C dX5_setsPart_1 ?_
  refine zz_iload_n C dX5_setsPart_4 rfl (lv_at hl 2 rfl) ?_
  refine zz_tld0 C dX5_setsPart_5 ?_
  refine zz_callVi (As := [.int (zz_mov.getD (zz_n x2) 0)]) (rest := []) C (m_X5_isNumber l E a0 (zz_mov.getD (zz_n x2) 0) h0 M) (cwV 1 C.1.2.2.2.2 gX5_setsPart_X5_isNumber rfl rfl rfl hdV_X5_isNumber ⟨Nat.le_of_ble_eq_true rfl, Nat.le_of_ble_eq_true rfl⟩) (zz_lt h0 (by decide)) (zz_c5 h0) rfl rfl hl.1 rfl (Nat.le_of_ble_eq_true rfl) dX5_setsPart_6 (fun r_1 M_2 => ?_)
  refine zz_if_ne (tgt := 14) C dX5_setsPart_9 (by decide) (fun c_3 => ?_) (fun c_3 => ?_)
  · refine zz_iconst (v := 0) C dX5_setsPart_12 (by decide) ?_
    exact zz_zretl C (v := (0 : Int32)) rfl hr dX5_setsPart_13
  · refine zz_aload_n C dX5_setsPart_14 rfl (lv_at hl 1 rfl) ?_
    refine zz_iload_n C dX5_setsPart_15 rfl (lv_at hl 2 rfl) ?_
    refine zz_aload_n C dX5_setsPart_16 rfl (lv_at hl 0 rfl) ?_
    refine zz_get C (zz_lt h0 (by decide)) (zz_c5 h0) rfl in_X5_setsPart_X5 5 (by decide) (List.mem_of_getElem? (i := 1) rfl) rfl dX5_setsPart_17 ?_
    refine zz_callVv (As := [.int x2, .int (zz_i M_2 a0 5)]) (rest := []) C (m_X6_setPart l E a1 x2 (zz_i M_2 a0 5) h1 M_2) (cwV 2 C.1.2.2.2.2 gX5_setsPart_X6_setPart rfl rfl rfl hdV_X6_setPart ⟨Nat.le_of_ble_eq_true rfl, Nat.le_of_ble_eq_true rfl⟩) (zz_lt h1 (by decide)) (zz_c6 h1) rfl rfl hl.1 rfl (Nat.le_of_ble_eq_true rfl) dX5_setsPart_20 (fun _ M_4 => ?_)
    refine zz_aload_n C dX5_setsPart_23 rfl (lv_at hl 0 rfl) ?_
    refine zz_callVv (As := []) (rest := []) C (m_X5_next l E a0 h0 M_4) (cwV 0 C.1.2.2.2.2 gX5_setsPart_X5_next rfl rfl rfl hdV_X5_next ⟨Nat.le_of_ble_eq_true rfl, Nat.le_of_ble_eq_true rfl⟩) (zz_lt h0 (by decide)) (zz_c5 h0) rfl rfl hl.1 rfl (Nat.le_of_ble_eq_true rfl) dX5_setsPart_24 (fun _ M_5 => ?_)
    refine zz_iconst (v := 1) C dX5_setsPart_27 (by decide) ?_
    exact zz_zretl C (v := (1 : Int32)) rfl hr dX5_setsPart_28
-- X5_vatItem ('X5', 'vatItem', '()Z')
theorem in_X5_vatItem_X1 : ∀ w ∈ u_ws RX1 TX1 3, w ∈ wsX5_vatItem := fun _ h => List.mem_cons_of_mem _ (List.mem_append_left _ (List.mem_append_left _ (List.mem_append_left _ (List.mem_append_right _ h))))
theorem in_X5_vatItem_X5 : ∀ w ∈ u_ws RX5 TX5 6, w ∈ wsX5_vatItem := fun _ h => List.mem_cons_of_mem _ (List.mem_append_left _ (List.mem_append_left _ (List.mem_append_left _ (List.mem_append_left _ (List.mem_append_right _ h)))))
theorem in_X5_vatItem_X6 : ∀ w ∈ u_ws RX6 TX6 4, w ∈ wsX5_vatItem := fun _ h => List.mem_cons_of_mem _ (List.mem_append_left _ (List.mem_append_right _ h))
theorem in_X5_vatItem_X7 : ∀ w ∈ u_ws RX7 TX7 4, w ∈ wsX5_vatItem := fun _ h => List.mem_cons_of_mem _ (List.mem_append_left _ (List.mem_append_left _ (List.mem_append_right _ h)))
theorem hdV_X5_setsPart : yX5_setsPart.cls = RX5 ∧ yX5_setsPart.cls ≠ "java/lang/invoke/MethodHandle" ∧ yX5_setsPart.cls ≠ "java/lang/invoke/VarHandle" ∧ (parseMethodDescriptor yX5_setsPart.desc).map (fun d => d.parameters.length) = some 2 := by decide +kernel
theorem hdV_X5_skips : yX5_skips.cls = RX5 ∧ yX5_skips.cls ≠ "java/lang/invoke/MethodHandle" ∧ yX5_skips.cls ≠ "java/lang/invoke/VarHandle" ∧ (parseMethodDescriptor yX5_skips.desc).map (fun d => d.parameters.length) = some 1 := by decide +kernel
def b_X5_vatItem_101 (a0 : Nat) (a1 : Nat) (M : zz_M) : Option (Int32 × zz_M) := zz_bd (f_X5_skips a0 14 M) (fun r_26 M_27 => (if r_26 = 0 then zz_bd (f_X5_skips a0 15 M_27) (fun r_29 M_30 => (if r_29 = 0 then some ((1 : Int32), M_30) else zz_w (zz_si M_30 a1 3 (0 : Int32)) (fun M_32 => some ((1 : Int32), M_32)))) else zz_w (zz_si M_27 a1 3 (1 : Int32)) (fun M_33 => some ((1 : Int32), M_33))))
set_option maxRecDepth 100000 in
set_option maxHeartbeats 4000000 in
theorem wb_X5_vatItem_101 {p : Program} {l : Launch} {e : Env} {s : State} {m : MethodId} {args : Array Value} {below : List Frame} {meth : Method} {c : Code} {E : zz_E} (C : zz_C E RX5 cX5_vatItem 2 wsX5_vatItem p s m args meth c) (hr : meth.sig.returnType = (some .boolean)) : ∀ (a0 : Nat) (a1 : Nat) (ha0 : zz_sh a0 = 5) (ha1 : zz_sh a1 = 6) (M : zz_M) (ls : Array Slot), lv_has ls 2 [(0, .ref (E.1 + a0)), (1, .ref (E.1 + a1))] → zz_Z E p l e (zz_rm 7) s m args below meth c (zz_Q (zz_pi E) E below args s) (b_X5_vatItem_101 a0 a1 M) M (F0 m 101 ls []) := by
  intro a0 a1 ha0 ha1 M ls hl
  unfold b_X5_vatItem_101
  refine zz_aload_n C dX5_vatItem_101 rfl (lv_at hl 0 rfl) ?_
  refine zz_ldcs 14 C (by decide) dX5_vatItem_102 ?_
  refine zz_callVi (As := [.ref (E.2.2.2.2.1 14)]) (rest := []) C (m_X5_skips l E a0 14 ha0 (by decide) M) (cwV 1 C.1.2.2.2.2 gX5_vatItem_X5_skips rfl rfl rfl hdV_X5_skips ⟨Nat.le_of_ble_eq_true rfl, Nat.le_of_ble_eq_true rfl⟩) (zz_lt ha0 (by decide)) (zz_c5 ha0) rfl rfl hl.1 rfl (Nat.le_of_ble_eq_true rfl) dX5_vatItem_104 (fun r_26 M_27 => ?_)
  refine zz_if_eq (tgt := 118) C dX5_vatItem_107 (by decide) (fun c_28 => ?_) (fun c_28 => ?_)
  · refine zz_aload_n C dX5_vatItem_118 rfl (lv_at hl 0 rfl) ?_
    refine zz_ldcs 15 C (by decide) dX5_vatItem_119 ?_
    refine zz_callVi (As := [.ref (E.2.2.2.2.1 15)]) (rest := []) C (m_X5_skips l E a0 15 ha0 (by decide) M_27) (cwV 1 C.1.2.2.2.2 gX5_vatItem_X5_skips rfl rfl rfl hdV_X5_skips ⟨Nat.le_of_ble_eq_true rfl, Nat.le_of_ble_eq_true rfl⟩) (zz_lt ha0 (by decide)) (zz_c5 ha0) rfl rfl hl.1 rfl (Nat.le_of_ble_eq_true rfl) dX5_vatItem_121 (fun r_29 M_30 => ?_)
    refine zz_if_eq (tgt := 132) C dX5_vatItem_124 (by decide) (fun c_31 => ?_) (fun c_31 => ?_)
    · refine zz_iconst (v := 1) C dX5_vatItem_132 (by decide) ?_
      exact zz_zretl C (v := (1 : Int32)) rfl hr dX5_vatItem_133
    · refine zz_aload_n C dX5_vatItem_127 rfl (lv_at hl 1 rfl) ?_
      refine zz_iconst (v := 0) C dX5_vatItem_128 (by decide) ?_
      refine zz_put (M1 := zz_si M_30 a1 3 (0 : Int32)) C (zz_lt ha1 (by decide)) (zz_c6 ha1) rfl in_X5_vatItem_X6 tyX6 tyX6_ok nmX6 3 (by decide) (List.mem_of_getElem? (i := 6) rfl) rfl (zz_nb (v := (0 : Int32)) rfl) (zz_fb (v := (0 : Int32)) rfl) (Nat.le_of_ble_eq_true rfl) (zz_p6_3 ha1) zz_cell_si dX5_vatItem_129 (fun M_32 => ?_)
      refine zz_iconst (v := 1) C dX5_vatItem_132 (by decide) ?_
      exact zz_zretl C (v := (1 : Int32)) rfl hr dX5_vatItem_133
  · refine zz_aload_n C dX5_vatItem_110 rfl (lv_at hl 1 rfl) ?_
    refine zz_iconst (v := 1) C dX5_vatItem_111 (by decide) ?_
    refine zz_put (M1 := zz_si M_27 a1 3 (1 : Int32)) C (zz_lt ha1 (by decide)) (zz_c6 ha1) rfl in_X5_vatItem_X6 tyX6 tyX6_ok nmX6 3 (by decide) (List.mem_of_getElem? (i := 6) rfl) rfl (zz_nb (v := (1 : Int32)) rfl) (zz_fb (v := (1 : Int32)) rfl) (Nat.le_of_ble_eq_true rfl) (zz_p6_3 ha1) zz_cell_si dX5_vatItem_112 (fun M_33 => ?_)
    refine zz_goto (tgt := 132) C dX5_vatItem_115 (by decide) ?_
    refine zz_iconst (v := 1) C dX5_vatItem_132 (by decide) ?_
    exact zz_zretl C (v := (1 : Int32)) rfl hr dX5_vatItem_133
def b_X5_vatItem_81 (a0 : Nat) (a1 : Nat) (M : zz_M) : Option (Int32 × zz_M) := zz_bd (f_X5_skips a0 13 M) (fun r_20 M_21 => (if r_20 = 0 then b_X5_vatItem_101  a0 a1 M_21 else zz_bd (f_X5_setsPart a0 a1 (2 : Int32) M_21) (fun r_23 M_24 => (if r_23 = 0 then some ((0 : Int32), M_24) else b_X5_vatItem_101  a0 a1 M_24))))
set_option maxRecDepth 100000 in
set_option maxHeartbeats 4000000 in
theorem wb_X5_vatItem_81 {p : Program} {l : Launch} {e : Env} {s : State} {m : MethodId} {args : Array Value} {below : List Frame} {meth : Method} {c : Code} {E : zz_E} (C : zz_C E RX5 cX5_vatItem 2 wsX5_vatItem p s m args meth c) (hr : meth.sig.returnType = (some .boolean)) : ∀ (a0 : Nat) (a1 : Nat) (ha0 : zz_sh a0 = 5) (ha1 : zz_sh a1 = 6) (M : zz_M) (ls : Array Slot), lv_has ls 2 [(0, .ref (E.1 + a0)), (1, .ref (E.1 + a1))] → zz_Z E p l e (zz_rm 7) s m args below meth c (zz_Q (zz_pi E) E below args s) (b_X5_vatItem_81 a0 a1 M) M (F0 m 81 ls []) := by
  intro a0 a1 ha0 ha1 M ls hl
  unfold b_X5_vatItem_81
  refine zz_aload_n C dX5_vatItem_81 rfl (lv_at hl 0 rfl) ?_
  refine zz_ldcs 13 C (by decide) dX5_vatItem_82 ?_
  refine zz_callVi (As := [.ref (E.2.2.2.2.1 13)]) (rest := []) C (m_X5_skips l E a0 13 ha0 (by decide) M) (cwV 1 C.1.2.2.2.2 gX5_vatItem_X5_skips rfl rfl rfl hdV_X5_skips ⟨Nat.le_of_ble_eq_true rfl, Nat.le_of_ble_eq_true rfl⟩) (zz_lt ha0 (by decide)) (zz_c5 ha0) rfl rfl hl.1 rfl (Nat.le_of_ble_eq_true rfl) dX5_vatItem_84 (fun r_20 M_21 => ?_)
  refine zz_if_eq (tgt := 101) C dX5_vatItem_87 (by decide) (fun c_22 => ?_) (fun c_22 => ?_)
  · exact wb_X5_vatItem_101 C hr  a0 a1 ha0 ha1 M_21 ls (lv_sub hl [0, 1] rfl)
  · refine zz_aload_n C dX5_vatItem_90 rfl (lv_at hl 0 rfl) ?_
    refine zz_aload_n C dX5_vatItem_91 rfl (lv_at hl 1 rfl) ?_
    refine zz_iconst (v := 2) C dX5_vatItem_92 (by decide) ?_
    refine zz_callVi (As := [.ref (E.1 + a1), .int (2 : Int32)]) (rest := []) C (m_X5_setsPart l E a0 a1 (2 : Int32) ha0 ha1 M_21) (cwV 2 C.1.2.2.2.2 gX5_vatItem_X5_setsPart rfl rfl rfl hdV_X5_setsPart ⟨Nat.le_of_ble_eq_true rfl, Nat.le_of_ble_eq_true rfl⟩) (zz_lt ha0 (by decide)) (zz_c5 ha0) rfl rfl hl.1 rfl (Nat.le_of_ble_eq_true rfl) dX5_vatItem_93 (fun r_23 M_24 => ?_)
    refine zz_if_ne (tgt := 101) C dX5_vatItem_96 (by decide) (fun c_25 => ?_) (fun c_25 => ?_)
    · refine zz_iconst (v := 0) C dX5_vatItem_99 (by decide) ?_
      exact zz_zretl C (v := (0 : Int32)) rfl hr dX5_vatItem_100
    · exact wb_X5_vatItem_101 C hr  a0 a1 ha0 ha1 M_24 ls (lv_sub hl [0, 1] rfl)
def b_X5_vatItem_61 (a0 : Nat) (a1 : Nat) (M : zz_M) : Option (Int32 × zz_M) := zz_bd (f_X5_skips a0 12 M) (fun r_14 M_15 => (if r_14 = 0 then b_X5_vatItem_81  a0 a1 M_15 else zz_bd (f_X5_setsPart a0 a1 (1 : Int32) M_15) (fun r_17 M_18 => (if r_17 = 0 then some ((0 : Int32), M_18) else b_X5_vatItem_81  a0 a1 M_18))))
set_option maxRecDepth 100000 in
set_option maxHeartbeats 4000000 in
theorem wb_X5_vatItem_61 {p : Program} {l : Launch} {e : Env} {s : State} {m : MethodId} {args : Array Value} {below : List Frame} {meth : Method} {c : Code} {E : zz_E} (C : zz_C E RX5 cX5_vatItem 2 wsX5_vatItem p s m args meth c) (hr : meth.sig.returnType = (some .boolean)) : ∀ (a0 : Nat) (a1 : Nat) (ha0 : zz_sh a0 = 5) (ha1 : zz_sh a1 = 6) (M : zz_M) (ls : Array Slot), lv_has ls 2 [(0, .ref (E.1 + a0)), (1, .ref (E.1 + a1))] → zz_Z E p l e (zz_rm 7) s m args below meth c (zz_Q (zz_pi E) E below args s) (b_X5_vatItem_61 a0 a1 M) M (F0 m 61 ls []) := by
  intro a0 a1 ha0 ha1 M ls hl
  unfold b_X5_vatItem_61
  refine zz_aload_n C dX5_vatItem_61 rfl (lv_at hl 0 rfl) ?_
  refine zz_ldcs 12 C (by decide) dX5_vatItem_62 ?_
  refine zz_callVi (As := [.ref (E.2.2.2.2.1 12)]) (rest := []) C (m_X5_skips l E a0 12 ha0 (by decide) M) (cwV 1 C.1.2.2.2.2 gX5_vatItem_X5_skips rfl rfl rfl hdV_X5_skips ⟨Nat.le_of_ble_eq_true rfl, Nat.le_of_ble_eq_true rfl⟩) (zz_lt ha0 (by decide)) (zz_c5 ha0) rfl rfl hl.1 rfl (Nat.le_of_ble_eq_true rfl) dX5_vatItem_64 (fun r_14 M_15 => ?_)
  refine zz_if_eq (tgt := 81) C dX5_vatItem_67 (by decide) (fun c_16 => ?_) (fun c_16 => ?_)
  · exact wb_X5_vatItem_81 C hr  a0 a1 ha0 ha1 M_15 ls (lv_sub hl [0, 1] rfl)
  · refine zz_aload_n C dX5_vatItem_70 rfl (lv_at hl 0 rfl) ?_
    refine zz_aload_n C dX5_vatItem_71 rfl (lv_at hl 1 rfl) ?_
    refine zz_iconst (v := 1) C dX5_vatItem_72 (by decide) ?_
    refine zz_callVi (As := [.ref (E.1 + a1), .int (1 : Int32)]) (rest := []) C (m_X5_setsPart l E a0 a1 (1 : Int32) ha0 ha1 M_15) (cwV 2 C.1.2.2.2.2 gX5_vatItem_X5_setsPart rfl rfl rfl hdV_X5_setsPart ⟨Nat.le_of_ble_eq_true rfl, Nat.le_of_ble_eq_true rfl⟩) (zz_lt ha0 (by decide)) (zz_c5 ha0) rfl rfl hl.1 rfl (Nat.le_of_ble_eq_true rfl) dX5_vatItem_73 (fun r_17 M_18 => ?_)
    refine zz_if_ne (tgt := 81) C dX5_vatItem_76 (by decide) (fun c_19 => ?_) (fun c_19 => ?_)
    · refine zz_iconst (v := 0) C dX5_vatItem_79 (by decide) ?_
      exact zz_zretl C (v := (0 : Int32)) rfl hr dX5_vatItem_80
    · exact wb_X5_vatItem_81 C hr  a0 a1 ha0 ha1 M_18 ls (lv_sub hl [0, 1] rfl)
def f_X5_vatItem (a0 : Nat) (M : zz_M) : Option (Int32 × zz_M) := zz_bd (f_X5_isNumber a0 (3 : Int32) M) (fun r_1 M_2 => (if r_1 = 0 then some ((0 : Int32), M_2) else (if zz_in (zz_i M_2 a0 5) 4 = true then zz_bd (f_X5_next a0 M_2) (fun _ M_5 => zz_bd (f_X5_skips a0 10 M_5) (fun r_6 M_7 => (if r_6 = 0 then zz_bd (f_X5_skips a0 11 M_7) (fun r_9 M_10 => (if r_9 = 0 then b_X5_vatItem_61  a0 ((((a0 + 1) + 1) + 1) + 1 + zz_n (zz_i M_2 a0 5)) M_10 else zz_w (zz_si M_10 ((((a0 + 1) + 1) + 1) + 1 + zz_n (zz_i M_2 a0 5)) 0 (1 : Int32)) (fun M_12 => b_X5_vatItem_61  a0 ((((a0 + 1) + 1) + 1) + 1 + zz_n (zz_i M_2 a0 5)) M_12))) else zz_w (zz_si M_7 ((((a0 + 1) + 1) + 1) + 1 + zz_n (zz_i M_2 a0 5)) 0 (0 : Int32)) (fun M_13 => b_X5_vatItem_61  a0 ((((a0 + 1) + 1) + 1) + 1 + zz_n (zz_i M_2 a0 5)) M_13)))) else none)))
set_option maxRecDepth 100000 in
set_option maxHeartbeats 4000000 in
theorem m_X5_vatItem (l : Launch) (E : zz_E) (a0 : Nat) (h0 : zz_sh a0 = 5) (M : zz_M) : zz_Met (zz_pi E) l yX5_vatItem wsX5_vatItem 7 E [.ref (E.1 + a0)] M (f_X5_vatItem a0 M) := by
  refine zz_met (cc := cX5_vatItem) (nL := 2) (ret := (some .boolean)) (by decide) rfl (Nat.le_of_ble_eq_true rfl) ?_
  intro p e s m below meth c C hr ls hl
  have C : zz_C E RX5 cX5_vatItem 2 wsX5_vatItem p s m [.ref (E.1 + a0)].toArray meth c := C
  have hl : lv_has ls 2 [(0, .ref (E.1 + a0))] := hl
  unfold f_X5_vatItem
  refine zz_aload_n C dX5_vatItem_0 rfl (lv_at hl 0 rfl) ?_
  refine zz_iconst (v := 3) C dX5_vatItem_1 (by decide) ?_
  refine zz_callVi (As := [.int (3 : Int32)]) (rest := []) C (m_X5_isNumber l E a0 (3 : Int32) h0 M) (cwV 1 C.1.2.2.2.2 gX5_vatItem_X5_isNumber rfl rfl rfl hdV_X5_isNumber ⟨Nat.le_of_ble_eq_true rfl, Nat.le_of_ble_eq_true rfl⟩) (zz_lt h0 (by decide)) (zz_c5 h0) rfl rfl hl.1 rfl (Nat.le_of_ble_eq_true rfl) dX5_vatItem_2 (fun r_1 M_2 => ?_)
  refine zz_if_ne (tgt := 10) C dX5_vatItem_5 (by decide) (fun c_3 => ?_) (fun c_3 => ?_)
  · refine zz_iconst (v := 0) C dX5_vatItem_8 (by decide) ?_
    exact zz_zretl C (v := (0 : Int32)) rfl hr dX5_vatItem_9
  · refine zz_aload_n C dX5_vatItem_10 rfl (lv_at hl 0 rfl) ?_
    refine zz_get C (zz_lt h0 (by decide)) (zz_c5 h0) rfl in_X5_vatItem_X5 1 (by decide) (List.mem_of_getElem? (i := 1) rfl) rfl dX5_vatItem_11 ?_
    refine zz_get C (zz_lt (zz_s5_1 h0) (by decide)) (zz_c1 (zz_s5_1 h0)) rfl in_X5_vatItem_X1 0 (by decide) (List.mem_of_getElem? (i := 2) rfl) rfl dX5_vatItem_14 ?_
    refine zz_get C (zz_lt (zz_s1_0 (zz_s5_1 h0)) (by decide)) (zz_c7 (zz_s1_0 (zz_s5_1 h0))) rfl in_X5_vatItem_X7 0 (by decide) (List.mem_of_getElem? (i := 3) rfl) rfl dX5_vatItem_17 ?_
    refine zz_aload_n C dX5_vatItem_20 rfl (lv_at hl 0 rfl) ?_
    refine zz_get C (zz_lt h0 (by decide)) (zz_c5 h0) rfl in_X5_vatItem_X5 5 (by decide) (List.mem_of_getElem? (i := 4) rfl) rfl dX5_vatItem_21 ?_
    refine zz_aald (t := 4) (g := fun i => (((a0 + 1) + 1) + 1) + 1 + i) C (zz_lt (zz_s7_0 (zz_s1_0 (zz_s5_1 h0))) (by decide)) (zz_c21 (zz_s7_0 (zz_s1_0 (zz_s5_1 h0)))) rfl dX5_vatItem_24 (fun b_4 => ?_)
    refine zz_astore_n (lv' := [(1, .ref (E.1 + ((((a0 + 1) + 1) + 1) + 1 + zz_n (zz_i M_2 a0 5)))), (0, .ref (E.1 + a0))]) C dX5_vatItem_25 rfl hl (by decide) rfl (fun ls hl => ?_)
    refine zz_aload_n C dX5_vatItem_26 rfl (lv_at hl 1 rfl) ?_
    refine zz_callVv (As := []) (rest := []) C (m_X5_next l E a0 h0 M_2) (cwV 0 C.1.2.2.2.2 gX5_vatItem_X5_next rfl rfl rfl hdV_X5_next ⟨Nat.le_of_ble_eq_true rfl, Nat.le_of_ble_eq_true rfl⟩) (zz_lt h0 (by decide)) (zz_c5 h0) rfl rfl hl.1 rfl (Nat.le_of_ble_eq_true rfl) dX5_vatItem_27 (fun _ M_5 => ?_)
    refine zz_aload_n C dX5_vatItem_30 rfl (lv_at hl 1 rfl) ?_
    refine zz_ldcs 10 C (by decide) dX5_vatItem_31 ?_
    refine zz_callVi (As := [.ref (E.2.2.2.2.1 10)]) (rest := []) C (m_X5_skips l E a0 10 h0 (by decide) M_5) (cwV 1 C.1.2.2.2.2 gX5_vatItem_X5_skips rfl rfl rfl hdV_X5_skips ⟨Nat.le_of_ble_eq_true rfl, Nat.le_of_ble_eq_true rfl⟩) (zz_lt h0 (by decide)) (zz_c5 h0) rfl rfl hl.1 rfl (Nat.le_of_ble_eq_true rfl) dX5_vatItem_33 (fun r_6 M_7 => ?_)
    refine zz_if_eq (tgt := 47) C dX5_vatItem_36 (by decide) (fun c_8 => ?_) (fun c_8 => ?_)
    · refine zz_aload_n C dX5_vatItem_47 rfl (lv_at hl 1 rfl) ?_
      refine zz_ldcs 11 C (by decide) dX5_vatItem_48 ?_
      refine zz_callVi (As := [.ref (E.2.2.2.2.1 11)]) (rest := []) C (m_X5_skips l E a0 11 h0 (by decide) M_7) (cwV 1 C.1.2.2.2.2 gX5_vatItem_X5_skips rfl rfl rfl hdV_X5_skips ⟨Nat.le_of_ble_eq_true rfl, Nat.le_of_ble_eq_true rfl⟩) (zz_lt h0 (by decide)) (zz_c5 h0) rfl rfl hl.1 rfl (Nat.le_of_ble_eq_true rfl) dX5_vatItem_50 (fun r_9 M_10 => ?_)
      refine zz_if_eq (tgt := 61) C dX5_vatItem_53 (by decide) (fun c_11 => ?_) (fun c_11 => ?_)
      · exact wb_X5_vatItem_61 C hr  a0 ((((a0 + 1) + 1) + 1) + 1 + zz_n (zz_i M_2 a0 5)) h0 (zz_e21 (zz_s7_0 (zz_s1_0 (zz_s5_1 h0))) b_4) M_10 ls (lv_sub hl [1, 0] rfl)
      · refine zz_aload_n C dX5_vatItem_56 rfl (lv_at hl 0 rfl) ?_
        refine zz_iconst (v := 1) C dX5_vatItem_57 (by decide) ?_
        refine zz_put (M1 := zz_si M_10 ((((a0 + 1) + 1) + 1) + 1 + zz_n (zz_i M_2 a0 5)) 0 (1 : Int32)) C (zz_lt (zz_e21 (zz_s7_0 (zz_s1_0 (zz_s5_1 h0))) b_4) (by decide)) (zz_c6 (zz_e21 (zz_s7_0 (zz_s1_0 (zz_s5_1 h0))) b_4)) rfl in_X5_vatItem_X6 tyX6 tyX6_ok nmX6 0 (by decide) (List.mem_of_getElem? (i := 5) rfl) rfl (zz_nb (v := (1 : Int32)) rfl) (zz_fb (v := (1 : Int32)) rfl) (Nat.le_of_ble_eq_true rfl) (zz_p6_0 (zz_e21 (zz_s7_0 (zz_s1_0 (zz_s5_1 h0))) b_4)) zz_cell_si dX5_vatItem_58 (fun M_12 => ?_)
        exact wb_X5_vatItem_61 C hr  a0 ((((a0 + 1) + 1) + 1) + 1 + zz_n (zz_i M_2 a0 5)) h0 (zz_e21 (zz_s7_0 (zz_s1_0 (zz_s5_1 h0))) b_4) M_12 ls (lv_sub hl [1, 0] rfl)
    · refine zz_aload_n C dX5_vatItem_39 rfl (lv_at hl 0 rfl) ?_
      refine zz_iconst (v := 0) C dX5_vatItem_40 (by decide) ?_
      refine zz_put (M1 := zz_si M_7 ((((a0 + 1) + 1) + 1) + 1 + zz_n (zz_i M_2 a0 5)) 0 (0 : Int32)) C (zz_lt (zz_e21 (zz_s7_0 (zz_s1_0 (zz_s5_1 h0))) b_4) (by decide)) (zz_c6 (zz_e21 (zz_s7_0 (zz_s1_0 (zz_s5_1 h0))) b_4)) rfl in_X5_vatItem_X6 tyX6 tyX6_ok nmX6 0 (by decide) (List.mem_of_getElem? (i := 5) rfl) rfl (zz_nb (v := (0 : Int32)) rfl) (zz_fb (v := (0 : Int32)) rfl) (Nat.le_of_ble_eq_true rfl) (zz_p6_0 (zz_e21 (zz_s7_0 (zz_s1_0 (zz_s5_1 h0))) b_4)) zz_cell_si dX5_vatItem_41 (fun M_13 => ?_)
      refine zz_goto (tgt := 61) C dX5_vatItem_44 (by decide) ?_
      exact wb_X5_vatItem_61 C hr  a0 ((((a0 + 1) + 1) + 1) + 1 + zz_n (zz_i M_2 a0 5)) h0 (zz_e21 (zz_s7_0 (zz_s1_0 (zz_s5_1 h0))) b_4) M_13 ls (lv_sub hl [1, 0] rfl)
-- X5_dipItem ('X5', 'dipItem', '()Z')
theorem in_X5_dipItem_X1 : ∀ w ∈ u_ws RX1 TX1 3, w ∈ wsX5_dipItem := fun _ h => List.mem_cons_of_mem _ (List.mem_append_left _ (List.mem_append_left _ (List.mem_append_left _ (List.mem_append_left _ (List.mem_append_right _ h)))))
theorem in_X5_dipItem_X5 : ∀ w ∈ u_ws RX5 TX5 6, w ∈ wsX5_dipItem := fun _ h => List.mem_cons_of_mem _ (List.mem_append_left _ (List.mem_append_left _ (List.mem_append_left _ (List.mem_append_left _ (List.mem_append_left _ (List.mem_append_right _ h))))))
theorem in_X5_dipItem_X7 : ∀ w ∈ u_ws RX7 TX7 4, w ∈ wsX5_dipItem := fun _ h => List.mem_cons_of_mem _ (List.mem_append_left _ (List.mem_append_left _ (List.mem_append_left _ (List.mem_append_right _ h))))
def f_X5_dipItem (a0 : Nat) (M : zz_M) : Option (Int32 × zz_M) := zz_bd (f_X5_isNumber a0 ((zz_i M (a0 + 1) 2) - (1 : Int32)) M) (fun r_1 M_2 => (if r_1 = 0 then some ((0 : Int32), M_2) else (if zz_in (zz_i M_2 a0 5) 10 = true then zz_bd (f_X5_next a0 M_2) (fun _ M_5 => zz_bd (f_X5_skips a0 16 M_5) (fun r_6 M_7 => (if r_6 = 0 then some ((0 : Int32), M_7) else zz_bd (f_X5_isNumber a0 (3 : Int32) M_7) (fun r_9 M_10 => (if r_9 = 0 then some ((0 : Int32), M_10) else (if zz_in (zz_i M_10 a0 5) 4 = true then zz_bd (f_X0_dipInto (((a0 + 1) + 7) + 1 + 2 * zz_n (zz_i M_2 a0 5)) ((((a0 + 1) + 1) + 1) + 1 + zz_n (zz_i M_10 a0 5)) M_10) (fun _ M_13 => zz_bd (f_X5_next a0 M_13) (fun _ M_14 => some ((1 : Int32), M_14))) else none)))))) else none)))
set_option maxRecDepth 100000 in
set_option maxHeartbeats 4000000 in
theorem m_X5_dipItem (l : Launch) (E : zz_E) (a0 : Nat) (h0 : zz_sh a0 = 5) (M : zz_M) : zz_Met (zz_pi E) l yX5_dipItem wsX5_dipItem 7 E [.ref (E.1 + a0)] M (f_X5_dipItem a0 M) := by
  refine zz_met (cc := cX5_dipItem) (nL := 2) (ret := (some .boolean)) (by decide) rfl (Nat.le_of_ble_eq_true rfl) ?_
  intro p e s m below meth c C hr ls hl
  have C : zz_C E RX5 cX5_dipItem 2 wsX5_dipItem p s m [.ref (E.1 + a0)].toArray meth c := C
  have hl : lv_has ls 2 [(0, .ref (E.1 + a0))] := hl
  unfold f_X5_dipItem
  refine zz_aload_n C dX5_dipItem_0 rfl (lv_at hl 0 rfl) ?_
  refine zz_aload_n C dX5_dipItem_1 rfl (lv_at hl 0 rfl) ?_
  refine zz_get C (zz_lt h0 (by decide)) (zz_c5 h0) rfl in_X5_dipItem_X5 1 (by decide) (List.mem_of_getElem? (i := 1) rfl) rfl dX5_dipItem_2 ?_
  refine zz_get C (zz_lt (zz_s5_1 h0) (by decide)) (zz_c1 (zz_s5_1 h0)) rfl in_X5_dipItem_X1 2 (by decide) (List.mem_of_getElem? (i := 2) rfl) rfl dX5_dipItem_5 ?_
  refine zz_iconst (v := 1) C dX5_dipItem_8 (by decide) ?_
  refine zz_isub C dX5_dipItem_9 ?_
  refine zz_callVi (As := [.int ((zz_i M (a0 + 1) 2) - (1 : Int32))]) (rest := []) C (m_X5_isNumber l E a0 ((zz_i M (a0 + 1) 2) - (1 : Int32)) h0 M) (cwV 1 C.1.2.2.2.2 gX5_dipItem_X5_isNumber rfl rfl rfl hdV_X5_isNumber ⟨Nat.le_of_ble_eq_true rfl, Nat.le_of_ble_eq_true rfl⟩) (zz_lt h0 (by decide)) (zz_c5 h0) rfl rfl hl.1 rfl (Nat.le_of_ble_eq_true rfl) dX5_dipItem_10 (fun r_1 M_2 => ?_)
  refine zz_if_ne (tgt := 18) C dX5_dipItem_13 (by decide) (fun c_3 => ?_) (fun c_3 => ?_)
  · refine zz_iconst (v := 0) C dX5_dipItem_16 (by decide) ?_
    exact zz_zretl C (v := (0 : Int32)) rfl hr dX5_dipItem_17
  · refine zz_aload_n C dX5_dipItem_18 rfl (lv_at hl 0 rfl) ?_
    refine zz_get C (zz_lt h0 (by decide)) (zz_c5 h0) rfl in_X5_dipItem_X5 1 (by decide) (List.mem_of_getElem? (i := 1) rfl) rfl dX5_dipItem_19 ?_
    refine zz_get C (zz_lt (zz_s5_1 h0) (by decide)) (zz_c1 (zz_s5_1 h0)) rfl in_X5_dipItem_X1 1 (by decide) (List.mem_of_getElem? (i := 3) rfl) rfl dX5_dipItem_22 ?_
    refine zz_aload_n C dX5_dipItem_25 rfl (lv_at hl 0 rfl) ?_
    refine zz_get C (zz_lt h0 (by decide)) (zz_c5 h0) rfl in_X5_dipItem_X5 5 (by decide) (List.mem_of_getElem? (i := 4) rfl) rfl dX5_dipItem_26 ?_
    refine zz_aald (t := 2) (g := fun i => ((a0 + 1) + 7) + 1 + 2 * i) C (zz_lt (zz_s1_1 (zz_s5_1 h0)) (by decide)) (zz_c18 (zz_s1_1 (zz_s5_1 h0))) rfl dX5_dipItem_29 (fun b_4 => ?_)
    refine zz_astore_n (lv' := [(1, .ref (E.1 + (((a0 + 1) + 7) + 1 + 2 * zz_n (zz_i M_2 a0 5)))), (0, .ref (E.1 + a0))]) C dX5_dipItem_30 rfl hl (by decide) rfl (fun ls hl => ?_)
    refine zz_aload_n C dX5_dipItem_31 rfl (lv_at hl 1 rfl) ?_
    refine zz_callVv (As := []) (rest := []) C (m_X5_next l E a0 h0 M_2) (cwV 0 C.1.2.2.2.2 gX5_dipItem_X5_next rfl rfl rfl hdV_X5_next ⟨Nat.le_of_ble_eq_true rfl, Nat.le_of_ble_eq_true rfl⟩) (zz_lt h0 (by decide)) (zz_c5 h0) rfl rfl hl.1 rfl (Nat.le_of_ble_eq_true rfl) dX5_dipItem_32 (fun _ M_5 => ?_)
    refine zz_aload_n C dX5_dipItem_35 rfl (lv_at hl 1 rfl) ?_
    refine zz_ldcs 16 C (by decide) dX5_dipItem_36 ?_
    refine zz_callVi (As := [.ref (E.2.2.2.2.1 16)]) (rest := []) C (m_X5_skips l E a0 16 h0 (by decide) M_5) (cwV 1 C.1.2.2.2.2 gX5_dipItem_X5_skips rfl rfl rfl hdV_X5_skips ⟨Nat.le_of_ble_eq_true rfl, Nat.le_of_ble_eq_true rfl⟩) (zz_lt h0 (by decide)) (zz_c5 h0) rfl rfl hl.1 rfl (Nat.le_of_ble_eq_true rfl) dX5_dipItem_38 (fun r_6 M_7 => ?_)
    refine zz_if_eq (tgt := 52) C dX5_dipItem_41 (by decide) (fun c_8 => ?_) (fun c_8 => ?_)
    · refine zz_iconst (v := 0) C dX5_dipItem_52 (by decide) ?_
      exact zz_zretl C (v := (0 : Int32)) rfl hr dX5_dipItem_53
    · refine zz_aload_n C dX5_dipItem_44 rfl (lv_at hl 1 rfl) ?_
      refine zz_iconst (v := 3) C dX5_dipItem_45 (by decide) ?_
      refine zz_callVi (As := [.int (3 : Int32)]) (rest := []) C (m_X5_isNumber l E a0 (3 : Int32) h0 M_7) (cwV 1 C.1.2.2.2.2 gX5_dipItem_X5_isNumber rfl rfl rfl hdV_X5_isNumber ⟨Nat.le_of_ble_eq_true rfl, Nat.le_of_ble_eq_true rfl⟩) (zz_lt h0 (by decide)) (zz_c5 h0) rfl rfl hl.1 rfl (Nat.le_of_ble_eq_true rfl) dX5_dipItem_46 (fun r_9 M_10 => ?_)
      refine zz_if_ne (tgt := 54) C dX5_dipItem_49 (by decide) (fun c_11 => ?_) (fun c_11 => ?_)
      · refine zz_iconst (v := 0) C dX5_dipItem_52 (by decide) ?_
        exact zz_zretl C (v := (0 : Int32)) rfl hr dX5_dipItem_53
      · refine zz_aload_n C dX5_dipItem_54 rfl (lv_at hl 0 rfl) ?_
        refine zz_aload_n C dX5_dipItem_55 rfl (lv_at hl 1 rfl) ?_
        refine zz_get C (zz_lt h0 (by decide)) (zz_c5 h0) rfl in_X5_dipItem_X5 1 (by decide) (List.mem_of_getElem? (i := 1) rfl) rfl dX5_dipItem_56 ?_
        refine zz_get C (zz_lt (zz_s5_1 h0) (by decide)) (zz_c1 (zz_s5_1 h0)) rfl in_X5_dipItem_X1 0 (by decide) (List.mem_of_getElem? (i := 5) rfl) rfl dX5_dipItem_59 ?_
        refine zz_get C (zz_lt (zz_s1_0 (zz_s5_1 h0)) (by decide)) (zz_c7 (zz_s1_0 (zz_s5_1 h0))) rfl in_X5_dipItem_X7 0 (by decide) (List.mem_of_getElem? (i := 6) rfl) rfl dX5_dipItem_62 ?_
        refine zz_aload_n C dX5_dipItem_65 rfl (lv_at hl 1 rfl) ?_
        refine zz_get C (zz_lt h0 (by decide)) (zz_c5 h0) rfl in_X5_dipItem_X5 5 (by decide) (List.mem_of_getElem? (i := 4) rfl) rfl dX5_dipItem_66 ?_
        refine zz_aald (t := 4) (g := fun i => (((a0 + 1) + 1) + 1) + 1 + i) C (zz_lt (zz_s7_0 (zz_s1_0 (zz_s5_1 h0))) (by decide)) (zz_c21 (zz_s7_0 (zz_s1_0 (zz_s5_1 h0)))) rfl dX5_dipItem_69 (fun b_12 => ?_)
        refine zz_callVv (As := [.ref (E.1 + ((((a0 + 1) + 1) + 1) + 1 + zz_n (zz_i M_10 a0 5)))]) (rest := []) C (m_X0_dipInto l E (((a0 + 1) + 7) + 1 + 2 * zz_n (zz_i M_2 a0 5)) ((((a0 + 1) + 1) + 1) + 1 + zz_n (zz_i M_10 a0 5)) (zz_e18 (zz_s1_1 (zz_s5_1 h0)) b_4) (zz_e21 (zz_s7_0 (zz_s1_0 (zz_s5_1 h0))) b_12) M_10) (cwV 1 C.1.2.2.2.2 gX5_dipItem_X0_dipInto rfl rfl rfl hdV_X0_dipInto ⟨Nat.le_of_ble_eq_true rfl, Nat.le_of_ble_eq_true rfl⟩) (zz_lt (zz_e18 (zz_s1_1 (zz_s5_1 h0)) b_4) (by decide)) (zz_c0 (zz_e18 (zz_s1_1 (zz_s5_1 h0)) b_4)) rfl rfl hl.1 rfl (Nat.le_of_ble_eq_true rfl) dX5_dipItem_70 (fun _ M_13 => ?_)
        refine zz_aload_n C dX5_dipItem_73 rfl (lv_at hl 1 rfl) ?_
        refine zz_callVv (As := []) (rest := []) C (m_X5_next l E a0 h0 M_13) (cwV 0 C.1.2.2.2.2 gX5_dipItem_X5_next rfl rfl rfl hdV_X5_next ⟨Nat.le_of_ble_eq_true rfl, Nat.le_of_ble_eq_true rfl⟩) (zz_lt h0 (by decide)) (zz_c5 h0) rfl rfl hl.1 rfl (Nat.le_of_ble_eq_true rfl) dX5_dipItem_74 (fun _ M_14 => ?_)
        refine zz_iconst (v := 1) C dX5_dipItem_77 (by decide) ?_
        exact zz_zretl C (v := (1 : Int32)) rfl hr dX5_dipItem_78
-- X5_item ('X5', 'item', '()Z')
theorem in_X5_item_X1 : ∀ w ∈ u_ws RX1 TX1 3, w ∈ wsX5_item := fun _ h => List.mem_cons_of_mem _ (List.mem_append_left _ (List.mem_append_left _ (List.mem_append_left _ (List.mem_append_left _ (List.mem_append_right _ h)))))
theorem in_X5_item_X5 : ∀ w ∈ u_ws RX5 TX5 6, w ∈ wsX5_item := fun _ h => List.mem_cons_of_mem _ (List.mem_append_left _ (List.mem_append_left _ (List.mem_append_left _ (List.mem_append_left _ (List.mem_append_left _ (List.mem_append_right _ h))))))
theorem in_X5_item_X7 : ∀ w ∈ u_ws RX7 TX7 4, w ∈ wsX5_item := fun _ h => List.mem_cons_of_mem _ (List.mem_append_left _ (List.mem_append_left _ (List.mem_append_left _ (List.mem_append_right _ h))))
theorem hdV_X5_dipItem : yX5_dipItem.cls = RX5 ∧ yX5_dipItem.cls ≠ "java/lang/invoke/MethodHandle" ∧ yX5_dipItem.cls ≠ "java/lang/invoke/VarHandle" ∧ (parseMethodDescriptor yX5_dipItem.desc).map (fun d => d.parameters.length) = some 0 := by decide +kernel
theorem hdV_X5_kindNamed : yX5_kindNamed.cls = RX5 ∧ yX5_kindNamed.cls ≠ "java/lang/invoke/MethodHandle" ∧ yX5_kindNamed.cls ≠ "java/lang/invoke/VarHandle" ∧ (parseMethodDescriptor yX5_kindNamed.desc).map (fun d => d.parameters.length) = some 0 := by decide +kernel
theorem hdV_X5_newCandle : yX5_newCandle.cls = RX5 ∧ yX5_newCandle.cls ≠ "java/lang/invoke/MethodHandle" ∧ yX5_newCandle.cls ≠ "java/lang/invoke/VarHandle" ∧ (parseMethodDescriptor yX5_newCandle.desc).map (fun d => d.parameters.length) = some 1 := by decide +kernel
theorem hdV_X5_vatItem : yX5_vatItem.cls = RX5 ∧ yX5_vatItem.cls ≠ "java/lang/invoke/MethodHandle" ∧ yX5_vatItem.cls ≠ "java/lang/invoke/VarHandle" ∧ (parseMethodDescriptor yX5_vatItem.desc).map (fun d => d.parameters.length) = some 0 := by decide +kernel
def f_X5_item (a0 : Nat) (M : zz_M) : Option (Int32 × zz_M) := zz_bd (f_X5_kindNamed a0 M) (fun r_1 M_2 => (if r_1 < 0 then zz_bd (f_X5_skips a0 6 M_2) (fun r_4 M_5 => (if r_4 = 0 then zz_bd (f_X5_skips a0 7 M_5) (fun r_7 M_8 => (if r_7 = 0 then zz_bd (f_X5_skips a0 8 M_8) (fun r_10 M_11 => (if r_10 = 0 then zz_bd (f_X5_skips a0 9 M_11) (fun r_13 M_14 => (if r_13 = 0 then some ((0 : Int32), M_14) else zz_bd (f_X5_isNumber a0 (9 : Int32) M_14) (fun r_16 M_17 => (if r_16 = 0 then some ((0 : Int32), M_17) else zz_w (zz_si M_17 ((a0 + 1) + 1) 2 (zz_i M_17 a0 5)) (fun M_19 => zz_bd (f_X5_next a0 M_19) (fun _ M_20 => some ((1 : Int32), M_20))))))) else zz_bd (f_X5_isNumber a0 (9999 : Int32) M_11) (fun r_21 M_22 => (if r_21 = 0 then some ((0 : Int32), M_22) else zz_w (zz_si M_22 ((a0 + 1) + 1) 1 (zz_i M_22 a0 5)) (fun M_24 => zz_bd (f_X5_next a0 M_24) (fun _ M_25 => some ((1 : Int32), M_25))))))) else zz_bd (f_X5_dipItem a0 M_8) (fun r_26 M_27 => (if zz_bit r_26 = true then some (r_26, M_27) else none)))) else zz_bd (f_X5_vatItem a0 M_5) (fun r_28 M_29 => (if zz_bit r_28 = true then some (r_28, M_29) else none)))) else zz_bd (f_X5_newCandle a0 r_1 M_2) (fun r_30 M_31 => (if zz_bit r_30 = true then some (r_30, M_31) else none))))
set_option maxRecDepth 100000 in
set_option maxHeartbeats 4000000 in
theorem m_X5_item (l : Launch) (E : zz_E) (a0 : Nat) (h0 : zz_sh a0 = 5) (M : zz_M) : zz_Met (zz_pi E) l yX5_item wsX5_item 8 E [.ref (E.1 + a0)] M (f_X5_item a0 M) := by
  refine zz_met (cc := cX5_item) (nL := 2) (ret := (some .boolean)) (by decide) rfl (Nat.le_of_ble_eq_true rfl) ?_
  intro p e s m below meth c C hr ls hl
  have C : zz_C E RX5 cX5_item 2 wsX5_item p s m [.ref (E.1 + a0)].toArray meth c := C
  have hl : lv_has ls 2 [(0, .ref (E.1 + a0))] := hl
  unfold f_X5_item
  refine zz_aload_n C dX5_item_0 rfl (lv_at hl 0 rfl) ?_
  refine zz_callVi (As := []) (rest := []) C (m_X5_kindNamed l E a0 h0 M) (cwV 0 C.1.2.2.2.2 gX5_item_X5_kindNamed rfl rfl rfl hdV_X5_kindNamed ⟨Nat.le_of_ble_eq_true rfl, Nat.le_of_ble_eq_true rfl⟩) (zz_lt h0 (by decide)) (zz_c5 h0) rfl rfl hl.1 rfl (Nat.le_of_ble_eq_true rfl) dX5_item_1 (fun r_1 M_2 => ?_)
  refine zz_istored_n (lv' := [(1, .int r_1), (0, .ref (E.1 + a0))]) C dX5_item_4 rfl hl (by decide) rfl (fun ls hl => ?_)
  refine zz_iload_n C dX5_item_5 rfl (lv_at hl 0 rfl) ?_
  refine zz_if_lt (tgt := 15) C dX5_item_6 (by decide) (fun c_3 => ?_) (fun c_3 => ?_)
  · refine zz_aload_n C dX5_item_15 rfl (lv_at hl 1 rfl) ?_
    refine zz_ldcs 6 C (by decide) dX5_item_16 ?_
    refine zz_callVi (As := [.ref (E.2.2.2.2.1 6)]) (rest := []) C (m_X5_skips l E a0 6 h0 (by decide) M_2) (cwV 1 C.1.2.2.2.2 gX5_item_X5_skips rfl rfl rfl hdV_X5_skips ⟨Nat.le_of_ble_eq_true rfl, Nat.le_of_ble_eq_true rfl⟩) (zz_lt h0 (by decide)) (zz_c5 h0) rfl rfl hl.1 rfl (Nat.le_of_ble_eq_true rfl) dX5_item_18 (fun r_4 M_5 => ?_)
    refine zz_if_eq (tgt := 29) C dX5_item_21 (by decide) (fun c_6 => ?_) (fun c_6 => ?_)
    · refine zz_aload_n C dX5_item_29 rfl (lv_at hl 1 rfl) ?_
      refine zz_ldcs 7 C (by decide) dX5_item_30 ?_
      refine zz_callVi (As := [.ref (E.2.2.2.2.1 7)]) (rest := []) C (m_X5_skips l E a0 7 h0 (by decide) M_5) (cwV 1 C.1.2.2.2.2 gX5_item_X5_skips rfl rfl rfl hdV_X5_skips ⟨Nat.le_of_ble_eq_true rfl, Nat.le_of_ble_eq_true rfl⟩) (zz_lt h0 (by decide)) (zz_c5 h0) rfl rfl hl.1 rfl (Nat.le_of_ble_eq_true rfl) dX5_item_32 (fun r_7 M_8 => ?_)
      refine zz_if_eq (tgt := 43) C dX5_item_35 (by decide) (fun c_9 => ?_) (fun c_9 => ?_)
      · refine zz_aload_n C dX5_item_43 rfl (lv_at hl 1 rfl) ?_
        refine zz_ldcs 8 C (by decide) dX5_item_44 ?_
        refine zz_callVi (As := [.ref (E.2.2.2.2.1 8)]) (rest := []) C (m_X5_skips l E a0 8 h0 (by decide) M_8) (cwV 1 C.1.2.2.2.2 gX5_item_X5_skips rfl rfl rfl hdV_X5_skips ⟨Nat.le_of_ble_eq_true rfl, Nat.le_of_ble_eq_true rfl⟩) (zz_lt h0 (by decide)) (zz_c5 h0) rfl rfl hl.1 rfl (Nat.le_of_ble_eq_true rfl) dX5_item_46 (fun r_10 M_11 => ?_)
        refine zz_if_eq (tgt := 84) C dX5_item_49 (by decide) (fun c_12 => ?_) (fun c_12 => ?_)
        · refine zz_aload_n C dX5_item_84 rfl (lv_at hl 1 rfl) ?_
          refine zz_ldcs 9 C (by decide) dX5_item_85 ?_
          refine zz_callVi (As := [.ref (E.2.2.2.2.1 9)]) (rest := []) C (m_X5_skips l E a0 9 h0 (by decide) M_11) (cwV 1 C.1.2.2.2.2 gX5_item_X5_skips rfl rfl rfl hdV_X5_skips ⟨Nat.le_of_ble_eq_true rfl, Nat.le_of_ble_eq_true rfl⟩) (zz_lt h0 (by decide)) (zz_c5 h0) rfl rfl hl.1 rfl (Nat.le_of_ble_eq_true rfl) dX5_item_87 (fun r_13 M_14 => ?_)
          refine zz_if_eq (tgt := 102) C dX5_item_90 (by decide) (fun c_15 => ?_) (fun c_15 => ?_)
          · refine zz_iconst (v := 0) C dX5_item_102 (by decide) ?_
            exact zz_zretl C (v := (0 : Int32)) rfl hr dX5_item_103
          · refine zz_aload_n C dX5_item_93 rfl (lv_at hl 1 rfl) ?_
            refine zz_bipush (v := 9) C dX5_item_94 (by decide) ?_
            refine zz_callVi (As := [.int (9 : Int32)]) (rest := []) C (m_X5_isNumber l E a0 (9 : Int32) h0 M_14) (cwV 1 C.1.2.2.2.2 gX5_item_X5_isNumber rfl rfl rfl hdV_X5_isNumber ⟨Nat.le_of_ble_eq_true rfl, Nat.le_of_ble_eq_true rfl⟩) (zz_lt h0 (by decide)) (zz_c5 h0) rfl rfl hl.1 rfl (Nat.le_of_ble_eq_true rfl) dX5_item_96 (fun r_16 M_17 => ?_)
            refine zz_if_ne (tgt := 104) C dX5_item_99 (by decide) (fun c_18 => ?_) (fun c_18 => ?_)
            · refine zz_iconst (v := 0) C dX5_item_102 (by decide) ?_
              exact zz_zretl C (v := (0 : Int32)) rfl hr dX5_item_103
            · refine zz_aload_n C dX5_item_104 rfl (lv_at hl 1 rfl) ?_
              refine zz_get C (zz_lt h0 (by decide)) (zz_c5 h0) rfl in_X5_item_X5 1 (by decide) (List.mem_of_getElem? (i := 1) rfl) rfl dX5_item_105 ?_
              refine zz_get C (zz_lt (zz_s5_1 h0) (by decide)) (zz_c1 (zz_s5_1 h0)) rfl in_X5_item_X1 0 (by decide) (List.mem_of_getElem? (i := 2) rfl) rfl dX5_item_108 ?_
              refine zz_aload_n C dX5_item_111 rfl (lv_at hl 1 rfl) ?_
              refine zz_get C (zz_lt h0 (by decide)) (zz_c5 h0) rfl in_X5_item_X5 5 (by decide) (List.mem_of_getElem? (i := 3) rfl) rfl dX5_item_112 ?_
              refine zz_put (M1 := zz_si M_17 ((a0 + 1) + 1) 2 (zz_i M_17 a0 5)) C (zz_lt (zz_s1_0 (zz_s5_1 h0)) (by decide)) (zz_c7 (zz_s1_0 (zz_s5_1 h0))) rfl in_X5_item_X7 tyX7 tyX7_ok nmX7 2 (by decide) (List.mem_of_getElem? (i := 5) rfl) rfl rfl rfl (Nat.le_of_ble_eq_true rfl) (zz_p7_2 (zz_s1_0 (zz_s5_1 h0))) zz_cell_si dX5_item_115 (fun M_19 => ?_)
              refine zz_aload_n C dX5_item_118 rfl (lv_at hl 1 rfl) ?_
              refine zz_callVv (As := []) (rest := []) C (m_X5_next l E a0 h0 M_19) (cwV 0 C.1.2.2.2.2 gX5_item_X5_next rfl rfl rfl hdV_X5_next ⟨Nat.le_of_ble_eq_true rfl, Nat.le_of_ble_eq_true rfl⟩) (zz_lt h0 (by decide)) (zz_c5 h0) rfl rfl hl.1 rfl (Nat.le_of_ble_eq_true rfl) dX5_item_119 (fun _ M_20 => ?_)
              refine zz_iconst (v := 1) C dX5_item_122 (by decide) ?_
              exact zz_zretl C (v := (1 : Int32)) rfl hr dX5_item_123
        · refine zz_aload_n C dX5_item_52 rfl (lv_at hl 1 rfl) ?_
          refine zz_sipush (v := 9999) C dX5_item_53 (by decide) ?_
          refine zz_callVi (As := [.int (9999 : Int32)]) (rest := []) C (m_X5_isNumber l E a0 (9999 : Int32) h0 M_11) (cwV 1 C.1.2.2.2.2 gX5_item_X5_isNumber rfl rfl rfl hdV_X5_isNumber ⟨Nat.le_of_ble_eq_true rfl, Nat.le_of_ble_eq_true rfl⟩) (zz_lt h0 (by decide)) (zz_c5 h0) rfl rfl hl.1 rfl (Nat.le_of_ble_eq_true rfl) dX5_item_56 (fun r_21 M_22 => ?_)
          refine zz_if_ne (tgt := 64) C dX5_item_59 (by decide) (fun c_23 => ?_) (fun c_23 => ?_)
          · refine zz_iconst (v := 0) C dX5_item_62 (by decide) ?_
            exact zz_zretl C (v := (0 : Int32)) rfl hr dX5_item_63
          · refine zz_aload_n C dX5_item_64 rfl (lv_at hl 1 rfl) ?_
            refine zz_get C (zz_lt h0 (by decide)) (zz_c5 h0) rfl in_X5_item_X5 1 (by decide) (List.mem_of_getElem? (i := 1) rfl) rfl dX5_item_65 ?_
            refine zz_get C (zz_lt (zz_s5_1 h0) (by decide)) (zz_c1 (zz_s5_1 h0)) rfl in_X5_item_X1 0 (by decide) (List.mem_of_getElem? (i := 2) rfl) rfl dX5_item_68 ?_
            refine zz_aload_n C dX5_item_71 rfl (lv_at hl 1 rfl) ?_
            refine zz_get C (zz_lt h0 (by decide)) (zz_c5 h0) rfl in_X5_item_X5 5 (by decide) (List.mem_of_getElem? (i := 3) rfl) rfl dX5_item_72 ?_
            refine zz_put (M1 := zz_si M_22 ((a0 + 1) + 1) 1 (zz_i M_22 a0 5)) C (zz_lt (zz_s1_0 (zz_s5_1 h0)) (by decide)) (zz_c7 (zz_s1_0 (zz_s5_1 h0))) rfl in_X5_item_X7 tyX7 tyX7_ok nmX7 1 (by decide) (List.mem_of_getElem? (i := 4) rfl) rfl rfl rfl (Nat.le_of_ble_eq_true rfl) (zz_p7_1 (zz_s1_0 (zz_s5_1 h0))) zz_cell_si dX5_item_75 (fun M_24 => ?_)
            refine zz_aload_n C dX5_item_78 rfl (lv_at hl 1 rfl) ?_
            refine zz_callVv (As := []) (rest := []) C (m_X5_next l E a0 h0 M_24) (cwV 0 C.1.2.2.2.2 gX5_item_X5_next rfl rfl rfl hdV_X5_next ⟨Nat.le_of_ble_eq_true rfl, Nat.le_of_ble_eq_true rfl⟩) (zz_lt h0 (by decide)) (zz_c5 h0) rfl rfl hl.1 rfl (Nat.le_of_ble_eq_true rfl) dX5_item_79 (fun _ M_25 => ?_)
            refine zz_iconst (v := 1) C dX5_item_82 (by decide) ?_
            exact zz_zretl C (v := (1 : Int32)) rfl hr dX5_item_83
      · refine zz_aload_n C dX5_item_38 rfl (lv_at hl 1 rfl) ?_
        refine zz_callVi (As := []) (rest := []) C (m_X5_dipItem l E a0 h0 M_8) (cwV 0 C.1.2.2.2.2 gX5_item_X5_dipItem rfl rfl rfl hdV_X5_dipItem ⟨Nat.le_of_ble_eq_true rfl, Nat.le_of_ble_eq_true rfl⟩) (zz_lt h0 (by decide)) (zz_c5 h0) rfl rfl hl.1 rfl (Nat.le_of_ble_eq_true rfl) dX5_item_39 (fun r_26 M_27 => ?_)
        exact zz_zret C hr dX5_item_42
    · refine zz_aload_n C dX5_item_24 rfl (lv_at hl 1 rfl) ?_
      refine zz_callVi (As := []) (rest := []) C (m_X5_vatItem l E a0 h0 M_5) (cwV 0 C.1.2.2.2.2 gX5_item_X5_vatItem rfl rfl rfl hdV_X5_vatItem ⟨Nat.le_of_ble_eq_true rfl, Nat.le_of_ble_eq_true rfl⟩) (zz_lt h0 (by decide)) (zz_c5 h0) rfl rfl hl.1 rfl (Nat.le_of_ble_eq_true rfl) dX5_item_25 (fun r_28 M_29 => ?_)
      exact zz_zret C hr dX5_item_28
  · refine zz_aload_n C dX5_item_9 rfl (lv_at hl 1 rfl) ?_
    refine zz_iload_n C dX5_item_10 rfl (lv_at hl 0 rfl) ?_
    refine zz_callVi (As := [.int r_1]) (rest := []) C (m_X5_newCandle l E a0 r_1 h0 M_2) (cwV 1 C.1.2.2.2.2 gX5_item_X5_newCandle rfl rfl rfl hdV_X5_newCandle ⟨Nat.le_of_ble_eq_true rfl, Nat.le_of_ble_eq_true rfl⟩) (zz_lt h0 (by decide)) (zz_c5 h0) rfl rfl hl.1 rfl (Nat.le_of_ble_eq_true rfl) dX5_item_11 (fun r_30 M_31 => ?_)
    exact zz_zret C hr dX5_item_14
-- X5_tell ('X5', 'tell', '(LFortyDips$Chandlery;)I')
theorem in_X5_tell_X5 : ∀ w ∈ u_ws RX5 TX5 6, w ∈ wsX5_tell := fun _ h => List.mem_cons_of_mem _ (List.mem_append_left _ (List.mem_append_left _ (List.mem_append_left _ (List.mem_append_left _ (List.mem_append_left _ (List.mem_append_right _ h))))))
theorem hdV_X5_item : yX5_item.cls = RX5 ∧ yX5_item.cls ≠ "java/lang/invoke/MethodHandle" ∧ yX5_item.cls ≠ "java/lang/invoke/VarHandle" ∧ (parseMethodDescriptor yX5_item.desc).map (fun d => d.parameters.length) = some 0 := by decide +kernel
def b_X5_tell_19 : Nat → Nat → Int32 → zz_M → Option (Int32 × zz_M)
  | 0 => fun _ _ _ => none
  | n + 1 => fun a0 x2 M => (if (120 : Int32) < x2 then some (((-1 : Int32) - (zz_i M a0 3)), M) else zz_bd (f_X5_item a0 M) (fun r_5 M_6 => (if r_5 = 0 then some (((-1 : Int32) - (zz_i M_6 a0 3)), M_6) else (if (zz_i M_6 a0 2) = 0 then some (x2, M_6) else (if (zz_i M_6 a0 2) = (3 : Int32) then zz_bd (f_X5_next a0 M_6) (fun _ M_10 => zz_w (x2 + (1 : Int32)) (fun x2_11 => (b_X5_tell_19 n) a0 x2_11 M_10)) else some (((-1 : Int32) - (zz_i M_6 a0 3)), M_6))))))
set_option maxRecDepth 100000 in
set_option maxHeartbeats 4000000 in
theorem wb_X5_tell_19 {p : Program} {l : Launch} {e : Env} {s : State} {m : MethodId} {args : Array Value} {below : List Frame} {meth : Method} {c : Code} {E : zz_E} (C : zz_C E RX5 cX5_tell 3 wsX5_tell p s m args meth c) (hr : meth.sig.returnType = (some .int)) : ∀ (n : Nat) (a0 : Nat) (x2 : Int32) (ha0 : zz_sh a0 = 5) (M : zz_M) (ls : Array Slot), lv_has ls 3 [(0, .ref (E.1 + a0)), (2, .int x2)] → zz_Z E p l e (zz_rm 9) s m args below meth c (zz_Q (zz_pi E) E below args s) (b_X5_tell_19 n a0 x2 M) M (F0 m 19 ls []) := by
  intro n
  induction n with
  | zero => intro a0 x2 ha0 M ls hl; exact zz_none
  | succ n ih =>
    intro a0 x2 ha0 M ls hl
    rw [b_X5_tell_19]
    refine zz_iload_n C dX5_tell_19 rfl (lv_at hl 1 rfl) ?_
    refine zz_bipush (v := 120) C dX5_tell_20 (by decide) ?_
    refine zz_icmp_gt (tgt := 73) C dX5_tell_22 (by decide) (fun c_4 => ?_) (fun c_4 => ?_)
    · refine zz_iconst (v := -1) C dX5_tell_73 (by decide) ?_
      refine zz_aload_n C dX5_tell_74 rfl (lv_at hl 0 rfl) ?_
      refine zz_get C (zz_lt ha0 (by decide)) (zz_c5 ha0) rfl in_X5_tell_X5 3 (by decide) (List.mem_of_getElem? (i := 3) rfl) rfl dX5_tell_75 ?_
      refine zz_isub C dX5_tell_78 ?_
      exact zz_iret C hr dX5_tell_79
    · refine zz_aload_n C dX5_tell_25 rfl (lv_at hl 0 rfl) ?_
      refine zz_callVi (As := []) (rest := []) C (m_X5_item l E a0 ha0 M) (cwV 0 C.1.2.2.2.2 gX5_tell_X5_item rfl rfl rfl hdV_X5_item ⟨Nat.le_of_ble_eq_true rfl, Nat.le_of_ble_eq_true rfl⟩) (zz_lt ha0 (by decide)) (zz_c5 ha0) rfl rfl hl.1 rfl (Nat.le_of_ble_eq_true rfl) dX5_tell_26 (fun r_5 M_6 => ?_)
      refine zz_if_ne (tgt := 39) C dX5_tell_29 (by decide) (fun c_7 => ?_) (fun c_7 => ?_)
      · refine zz_iconst (v := -1) C dX5_tell_32 (by decide) ?_
        refine zz_aload_n C dX5_tell_33 rfl (lv_at hl 0 rfl) ?_
        refine zz_get C (zz_lt ha0 (by decide)) (zz_c5 ha0) rfl in_X5_tell_X5 3 (by decide) (List.mem_of_getElem? (i := 3) rfl) rfl dX5_tell_34 ?_
        refine zz_isub C dX5_tell_37 ?_
        exact zz_iret C hr dX5_tell_38
      · refine zz_aload_n C dX5_tell_39 rfl (lv_at hl 0 rfl) ?_
        refine zz_get C (zz_lt ha0 (by decide)) (zz_c5 ha0) rfl in_X5_tell_X5 2 (by decide) (List.mem_of_getElem? (i := 4) rfl) rfl dX5_tell_40 ?_
        refine zz_if_ne (tgt := 48) C dX5_tell_43 (by decide) (fun c_8 => ?_) (fun c_8 => ?_)
        · refine zz_iload_n C dX5_tell_46 rfl (lv_at hl 1 rfl) ?_
          exact zz_iret C hr dX5_tell_47
        · refine zz_aload_n C dX5_tell_48 rfl (lv_at hl 0 rfl) ?_
          refine zz_get C (zz_lt ha0 (by decide)) (zz_c5 ha0) rfl in_X5_tell_X5 2 (by decide) (List.mem_of_getElem? (i := 4) rfl) rfl dX5_tell_49 ?_
          refine zz_iconst (v := 3) C dX5_tell_52 (by decide) ?_
          refine zz_icmp_eq (tgt := 63) C dX5_tell_53 (by decide) (fun c_9 => ?_) (fun c_9 => ?_)
          · refine zz_aload_n C dX5_tell_63 rfl (lv_at hl 0 rfl) ?_
            refine zz_callVv (As := []) (rest := []) C (m_X5_next l E a0 ha0 M_6) (cwV 0 C.1.2.2.2.2 gX5_tell_X5_next rfl rfl rfl hdV_X5_next ⟨Nat.le_of_ble_eq_true rfl, Nat.le_of_ble_eq_true rfl⟩) (zz_lt ha0 (by decide)) (zz_c5 ha0) rfl rfl hl.1 rfl (Nat.le_of_ble_eq_true rfl) dX5_tell_64 (fun _ M_10 => ?_)
            refine zz_iinc (k9 := 1) (d := 1) C (fun x2_11 => [(2, .int x2_11), (0, .ref (E.1 + a0))]) dX5_tell_67 hl rfl (by decide) (by decide) (fun _ => rfl) (fun x2_11 ls hl => ?_)
            refine zz_goto (tgt := 19) C dX5_tell_70 (by decide) ?_
            exact ih a0 x2_11 ha0 M_10 ls (lv_sub hl [1, 0] rfl)
          · refine zz_iconst (v := -1) C dX5_tell_56 (by decide) ?_
            refine zz_aload_n C dX5_tell_57 rfl (lv_at hl 0 rfl) ?_
            refine zz_get C (zz_lt ha0 (by decide)) (zz_c5 ha0) rfl in_X5_tell_X5 3 (by decide) (List.mem_of_getElem? (i := 3) rfl) rfl dX5_tell_58 ?_
            refine zz_isub C dX5_tell_61 ?_
            exact zz_iret C hr dX5_tell_62
def f_X5_tell (a0 : Nat) (a1 : Nat) (M : zz_M) : Option (Int32 × zz_M) := zz_bd (f_X1_become (a0 + 1) a1 M) (fun _ M_1 => zz_w (zz_si M_1 a0 4 (0 : Int32)) (fun M_2 => zz_bd (f_X5_next a0 M_2) (fun _ M_3 => b_X5_tell_19  zz_fuel a0 (1 : Int32) M_3)))
set_option maxRecDepth 100000 in
set_option maxHeartbeats 4000000 in
theorem m_X5_tell (l : Launch) (E : zz_E) (a0 : Nat) (a1 : Nat) (h0 : zz_sh a0 = 5) (h1 : zz_sh a1 = 1) (M : zz_M) : zz_Met (zz_pi E) l yX5_tell wsX5_tell 9 E [.ref (E.1 + a0), .ref (E.1 + a1)] M (f_X5_tell a0 a1 M) := by
  refine zz_met (cc := cX5_tell) (nL := 3) (ret := (some .int)) (by decide) rfl (Nat.le_of_ble_eq_true rfl) ?_
  intro p e s m below meth c C hr ls hl
  have C : zz_C E RX5 cX5_tell 3 wsX5_tell p s m [.ref (E.1 + a0), .ref (E.1 + a1)].toArray meth c := C
  have hl : lv_has ls 3 [(0, .ref (E.1 + a0)), (1, .ref (E.1 + a1))] := hl
  unfold f_X5_tell
  refine zz_aload_n C dX5_tell_0 rfl (lv_at hl 0 rfl) ?_
  refine zz_get C (zz_lt h0 (by decide)) (zz_c5 h0) rfl in_X5_tell_X5 1 (by decide) (List.mem_of_getElem? (i := 1) rfl) rfl dX5_tell_1 ?_
  refine zz_aload_n C dX5_tell_4 rfl (lv_at hl 1 rfl) ?_
  refine zz_callVv (As := [.ref (E.1 + a1)]) (rest := []) C (m_X1_become l E (a0 + 1) a1 (zz_s5_1 h0) h1 M) (cwV 1 C.1.2.2.2.2 gX5_tell_X1_become rfl rfl rfl hdV_X1_become ⟨Nat.le_of_ble_eq_true rfl, Nat.le_of_ble_eq_true rfl⟩) (zz_lt (zz_s5_1 h0) (by decide)) (zz_c1 (zz_s5_1 h0)) rfl rfl hl.1 rfl (Nat.le_of_ble_eq_true rfl) dX5_tell_5 (fun _ M_1 => ?_)
  refine zz_aload_n C dX5_tell_8 rfl (lv_at hl 0 rfl) ?_
  refine zz_iconst (v := 0) C dX5_tell_9 (by decide) ?_
  refine zz_put (M1 := zz_si M_1 a0 4 (0 : Int32)) C (zz_lt h0 (by decide)) (zz_c5 h0) rfl in_X5_tell_X5 tyX5 tyX5_ok nmX5 4 (by decide) (List.mem_of_getElem? (i := 2) rfl) rfl rfl rfl (Nat.le_of_ble_eq_true rfl) (zz_p5_4 h0) zz_cell_si dX5_tell_10 (fun M_2 => ?_)
  refine zz_aload_n C dX5_tell_13 rfl (lv_at hl 0 rfl) ?_
  refine zz_callVv (As := []) (rest := []) C (m_X5_next l E a0 h0 M_2) (cwV 0 C.1.2.2.2.2 gX5_tell_X5_next rfl rfl rfl hdV_X5_next ⟨Nat.le_of_ble_eq_true rfl, Nat.le_of_ble_eq_true rfl⟩) (zz_lt h0 (by decide)) (zz_c5 h0) rfl rfl hl.1 rfl (Nat.le_of_ble_eq_true rfl) dX5_tell_14 (fun _ M_3 => ?_)
  refine zz_iconst (v := 1) C dX5_tell_17 (by decide) ?_
  refine zz_istored_n (lv' := [(2, .int (1 : Int32)), (0, .ref (E.1 + a0)), (1, .ref (E.1 + a1))]) C dX5_tell_18 rfl hl (by decide) rfl (fun ls hl => ?_)
  exact wb_X5_tell_19 C hr  zz_fuel a0 (1 : Int32) h0 M_3 ls (lv_sub hl [1, 0] rfl)
-- X8_text ('X8', 'text', '()I')
theorem in_X8_text_X4 : ∀ w ∈ u_ws RX4 TX4 2, w ∈ wsX8_text := fun _ h => List.mem_cons_of_mem _ (List.mem_append_left _ (List.mem_append_left _ (List.mem_append_left _ (List.mem_append_left _ (List.mem_append_right _ h)))))
theorem in_X8_text_X5 : ∀ w ∈ u_ws RX5 TX5 6, w ∈ wsX8_text := fun _ h => List.mem_cons_of_mem _ (List.mem_append_left _ (List.mem_append_left _ (List.mem_append_left _ (List.mem_append_left _ (List.mem_append_left _ (List.mem_append_right _ h))))))
theorem in_X8_text_X8 : ∀ w ∈ u_ws RX8 TX8 11, w ∈ wsX8_text := fun _ h => List.mem_cons_of_mem _ (List.mem_append_left _ (List.mem_append_left _ (List.mem_append_left _ (List.mem_append_left _ (List.mem_append_left _ (List.mem_append_left _ (List.mem_append_right _ h)))))))
theorem hdV_X5_tell : yX5_tell.cls = RX5 ∧ yX5_tell.cls ≠ "java/lang/invoke/MethodHandle" ∧ yX5_tell.cls ≠ "java/lang/invoke/VarHandle" ∧ (parseMethodDescriptor yX5_tell.desc).map (fun d => d.parameters.length) = some 1 := by decide +kernel
def b_X8_text_30 (a0 : Nat) (x1 : Int32) (M : zz_M) : Option (Int32 × zz_M) := zz_w (zz_si M 88 1 (0 : Int32)) (fun M_5 => some (x1, M_5))
set_option maxRecDepth 100000 in
set_option maxHeartbeats 4000000 in
theorem wb_X8_text_30 {p : Program} {l : Launch} {e : Env} {s : State} {m : MethodId} {args : Array Value} {below : List Frame} {meth : Method} {c : Code} {E : zz_E} (C : zz_C E RX8 cX8_text 2 wsX8_text p s m args meth c) (hr : meth.sig.returnType = (some .int)) : ∀ (a0 : Nat) (x1 : Int32) (ha0 : zz_sh a0 = 8) (M : zz_M) (ls : Array Slot), lv_has ls 2 [(0, .ref (E.1 + a0)), (1, .int x1)] → zz_Z E p l e (zz_rm 10) s m args below meth c (zz_Q (zz_pi E) E below args s) (b_X8_text_30 a0 x1 M) M (F0 m 30 ls []) := by
  intro a0 x1 ha0 M ls hl
  unfold b_X8_text_30
  refine zz_aload_n C dX8_text_30 rfl (lv_at hl 0 rfl) ?_
  refine zz_get C (zz_lt ha0 (by decide)) (zz_c8 ha0) rfl in_X8_text_X8 7 (by decide) (List.mem_of_getElem? (i := 4) rfl) rfl dX8_text_31 ?_
  refine zz_iconst (v := 0) C dX8_text_34 (by decide) ?_
  refine zz_put (M1 := zz_si M 88 1 (0 : Int32)) C (zz_lt (zz_s8_7 ha0) (by decide)) (zz_c4 (zz_s8_7 ha0)) rfl in_X8_text_X4 tyX4 tyX4_ok nmX4 1 (by decide) (List.mem_of_getElem? (i := 5) rfl) rfl rfl rfl (Nat.le_of_ble_eq_true rfl) (zz_p4_1 (zz_s8_7 ha0)) zz_cell_si dX8_text_35 (fun M_5 => ?_)
  refine zz_iload_n C dX8_text_38 rfl (lv_at hl 1 rfl) ?_
  exact zz_iret C hr dX8_text_39
def f_X8_text (a0 : Nat) (M : zz_M) : Option (Int32 × zz_M) := zz_bd (f_X5_tell 90 1 M) (fun r_1 M_2 => (if r_1 < 0 then b_X8_text_30  a0 r_1 M_2 else zz_bd (f_X1_become 1 (90 + 1) M_2) (fun _ M_4 => b_X8_text_30  a0 r_1 M_4)))
set_option maxRecDepth 100000 in
set_option maxHeartbeats 4000000 in
theorem m_X8_text (l : Launch) (E : zz_E) (a0 : Nat) (h0 : zz_sh a0 = 8) (M : zz_M) : zz_Met (zz_pi E) l yX8_text wsX8_text 10 E [.ref (E.1 + a0)] M (f_X8_text a0 M) := by
  refine zz_met (cc := cX8_text) (nL := 2) (ret := (some .int)) (by decide) rfl (Nat.le_of_ble_eq_true rfl) ?_
  intro p e s m below meth c C hr ls hl
  have C : zz_C E RX8 cX8_text 2 wsX8_text p s m [.ref (E.1 + a0)].toArray meth c := C
  have hl : lv_has ls 2 [(0, .ref (E.1 + a0))] := hl
  unfold f_X8_text
  refine zz_aload_n C dX8_text_0 rfl (lv_at hl 0 rfl) ?_
  refine zz_get C (zz_lt h0 (by decide)) (zz_c8 h0) rfl in_X8_text_X8 8 (by decide) (List.mem_of_getElem? (i := 1) rfl) rfl dX8_text_1 ?_
  refine zz_aload_n C dX8_text_4 rfl (lv_at hl 0 rfl) ?_
  refine zz_get C (zz_lt h0 (by decide)) (zz_c8 h0) rfl in_X8_text_X8 0 (by decide) (List.mem_of_getElem? (i := 2) rfl) rfl dX8_text_5 ?_
  refine zz_callVi (As := [.ref (E.1 + 1)]) (rest := []) C (m_X5_tell l E 90 1 (zz_s8_8 h0) (zz_s8_0 h0) M) (cwV 1 C.1.2.2.2.2 gX8_text_X5_tell rfl rfl rfl hdV_X5_tell ⟨Nat.le_of_ble_eq_true rfl, Nat.le_of_ble_eq_true rfl⟩) (zz_lt (zz_s8_8 h0) (by decide)) (zz_c5 (zz_s8_8 h0)) rfl rfl hl.1 rfl (Nat.le_of_ble_eq_true rfl) dX8_text_8 (fun r_1 M_2 => ?_)
  refine zz_istored_n (lv' := [(1, .int r_1), (0, .ref (E.1 + a0))]) C dX8_text_11 rfl hl (by decide) rfl (fun ls hl => ?_)
  refine zz_iload_n C dX8_text_12 rfl (lv_at hl 0 rfl) ?_
  refine zz_if_lt (tgt := 30) C dX8_text_13 (by decide) (fun c_3 => ?_) (fun c_3 => ?_)
  · exact wb_X8_text_30 C hr  a0 r_1 h0 M_2 ls (lv_sub hl [1, 0] rfl)
  · refine zz_aload_n C dX8_text_16 rfl (lv_at hl 1 rfl) ?_
    refine zz_get C (zz_lt h0 (by decide)) (zz_c8 h0) rfl in_X8_text_X8 0 (by decide) (List.mem_of_getElem? (i := 2) rfl) rfl dX8_text_17 ?_
    refine zz_aload_n C dX8_text_20 rfl (lv_at hl 1 rfl) ?_
    refine zz_get C (zz_lt h0 (by decide)) (zz_c8 h0) rfl in_X8_text_X8 8 (by decide) (List.mem_of_getElem? (i := 1) rfl) rfl dX8_text_21 ?_
    refine zz_get C (zz_lt (zz_s8_8 h0) (by decide)) (zz_c5 (zz_s8_8 h0)) rfl in_X8_text_X5 1 (by decide) (List.mem_of_getElem? (i := 3) rfl) rfl dX8_text_24 ?_
    refine zz_callVv (As := [.ref (E.1 + (90 + 1))]) (rest := []) C (m_X1_become l E 1 (90 + 1) (zz_s8_0 h0) (zz_s5_1 (zz_s8_8 h0)) M_2) (cwV 1 C.1.2.2.2.2 gX8_text_X1_become rfl rfl rfl hdV_X1_become ⟨Nat.le_of_ble_eq_true rfl, Nat.le_of_ble_eq_true rfl⟩) (zz_lt (zz_s8_0 h0) (by decide)) (zz_c1 (zz_s8_0 h0)) rfl rfl hl.1 rfl (Nat.le_of_ble_eq_true rfl) dX8_text_27 (fun _ M_4 => ?_)
    exact wb_X8_text_30 C hr  a0 r_1 h0 M_4 ls (lv_sub hl [1, 0] rfl)
