-- X9_feed ('X9', 'feed', '(II)I')
theorem in_X9_feed_X9 : ∀ w ∈ u_ws RX9 TX9 20, w ∈ wsX9_feed := fun _ h => List.mem_cons_of_mem _ (List.mem_append_right _ h)
def b_X9_feed_38 : Nat → Nat → Int32 → Int32 → zz_M → Option (Int32 × zz_M)
  | 0 => fun _ _ _ _ => none
  | n + 1 => fun a0 x1 x3 M => (if x3 < 0 then some ((zz_i M a0 6), M) else (if zz_in (zz_i M a0 6) 120 = true then zz_w (zz_si M 134 (zz_n (zz_i M a0 6)) ((x1 >>> (((8 : Int32) * x3) &&& (31 : Int32))) &&& (255 : Int32))) (fun M_11 => zz_w (zz_si M_11 a0 6 ((zz_i M_11 a0 6) + (1 : Int32))) (fun M_12 => zz_w (x3 + (-1 : Int32)) (fun x3_13 => (b_X9_feed_38 n) a0 x1 x3_13 M_12))) else none))
set_option maxRecDepth 100000 in
set_option maxHeartbeats 4000000 in
theorem wb_X9_feed_38 {p : Program} {l : Launch} {e : Env} {s : State} {m : MethodId} {args : Array Value} {below : List Frame} {meth : Method} {c : Code} {E : zz_E} (C : zz_C E RX9 cX9_feed 4 wsX9_feed p s m args meth c) (hr : meth.sig.returnType = (some .int)) : ∀ (n : Nat) (a0 : Nat) (x1 : Int32) (x3 : Int32) (ha0 : zz_sh a0 = 9) (M : zz_M) (ls : Array Slot), lv_has ls 4 [(0, .ref (E.1 + a0)), (1, .int x1), (3, .int x3)] → zz_Z E p l e (zz_rm 2) s m args below meth c (zz_Q (zz_pi E) E below args s) (b_X9_feed_38 n a0 x1 x3 M) M (F0 m 38 ls []) := by
  intro n
  induction n with
  | zero => intro a0 x1 x3 ha0 M ls hl; exact zz_none
  | succ n ih =>
    intro a0 x1 x3 ha0 M ls hl
    rw [b_X9_feed_38]
    refine zz_iload_n C dX9_feed_38 rfl (lv_at hl 2 rfl) ?_
    refine zz_if_lt (tgt := 77) C dX9_feed_39 (by decide) (fun c_10 => ?_) (fun c_10 => ?_)
    · refine zz_aload_n C dX9_feed_77 rfl (lv_at hl 0 rfl) ?_
      refine zz_get C (zz_lt ha0 (by decide)) (zz_c9 ha0) rfl in_X9_feed_X9 6 (by decide) (List.mem_of_getElem? (i := 2) rfl) rfl dX9_feed_78 ?_
      exact zz_iret C hr dX9_feed_81
    · refine zz_aload_n C dX9_feed_42 rfl (lv_at hl 0 rfl) ?_
      refine zz_get C (zz_lt ha0 (by decide)) (zz_c9 ha0) rfl in_X9_feed_X9 5 (by decide) (List.mem_of_getElem? (i := 4) rfl) rfl dX9_feed_43 ?_
      refine zz_aload_n C dX9_feed_46 rfl (lv_at hl 0 rfl) ?_
      refine zz_get C (zz_lt ha0 (by decide)) (zz_c9 ha0) rfl in_X9_feed_X9 6 (by decide) (List.mem_of_getElem? (i := 2) rfl) rfl dX9_feed_47 ?_
      refine zz_iload_n C dX9_feed_50 rfl (lv_at hl 1 rfl) ?_
      refine zz_bipush (v := 8) C dX9_feed_51 (by decide) ?_
      refine zz_iload_n C dX9_feed_53 rfl (lv_at hl 2 rfl) ?_
      refine zz_imul C dX9_feed_54 ?_
      refine zz_ishr C dX9_feed_55 ?_
      refine zz_sipush (v := 255) C dX9_feed_56 (by decide) ?_
      refine zz_iand C dX9_feed_59 ?_
      refine zz_iast C (zz_lt (zz_s9_5 ha0) (by decide)) (fun _ => zz_c11 (zz_s9_5 ha0)) dX9_feed_60 (fun M_11 => ?_)
      refine zz_aload_n C dX9_feed_61 rfl (lv_at hl 0 rfl) ?_
      refine zz_dup C dX9_feed_62 rfl ?_
      refine zz_get C (zz_lt ha0 (by decide)) (zz_c9 ha0) rfl in_X9_feed_X9 6 (by decide) (List.mem_of_getElem? (i := 2) rfl) rfl dX9_feed_63 ?_
      refine zz_iconst (v := 1) C dX9_feed_66 (by decide) ?_
      refine zz_iadd C dX9_feed_67 ?_
      refine zz_put (M1 := zz_si M_11 a0 6 ((zz_i M_11 a0 6) + (1 : Int32))) C (zz_lt ha0 (by decide)) (zz_c9 ha0) rfl in_X9_feed_X9 tyX9 tyX9_ok nmX9 6 (by decide) (List.mem_of_getElem? (i := 2) rfl) rfl rfl rfl (Nat.le_of_ble_eq_true rfl) (zz_p9_6 ha0) zz_cell_si dX9_feed_68 (fun M_12 => ?_)
      refine zz_iinc (k9 := 2) (d := -1) C (fun x3_13 => [(3, .int x3_13), (0, .ref (E.1 + a0)), (1, .int x1)]) dX9_feed_71 hl rfl (by decide) (by decide) (fun _ => rfl) (fun x3_13 ls hl => ?_)
      refine zz_goto (tgt := 38) C dX9_feed_74 (by decide) ?_
      exact ih a0 x1 x3_13 ha0 M_12 ls (lv_sub hl [1, 2, 0] rfl)
def f_X9_feed (a0 : Nat) (x1 : Int32) (x2 : Int32) (M : zz_M) : Option (Int32 × zz_M) := zz_bd (f_X9_in x2 (1 : Int32) (4 : Int32) M) (fun r_1 M_2 => (if r_1 = 0 then zz_bd (f_X9_finds a0 (-1000000001 : Int32) M_2) (fun r_8 M_9 => some (r_8, M_9)) else (if ((zz_i M_2 a0 6) + x2) ≤ (120 : Int32) then zz_w (x2 - (1 : Int32)) (fun x3_5 => b_X9_feed_38  zz_fuel a0 x1 x3_5 M_2) else zz_bd (f_X9_finds a0 (-1000000002 : Int32) M_2) (fun r_6 M_7 => some (r_6, M_7)))))
set_option maxRecDepth 100000 in
set_option maxHeartbeats 4000000 in
theorem m_X9_feed (l : Launch) (E : zz_E) (a0 : Nat) (x1 : Int32) (x2 : Int32) (h0 : zz_sh a0 = 9) (M : zz_M) : zz_Met (zz_pi E) l yX9_feed wsX9_feed 2 E [.ref (E.1 + a0), .int x1, .int x2] M (f_X9_feed a0 x1 x2 M) := by
  refine zz_met (cc := cX9_feed) (nL := 4) (ret := (some .int)) (by decide) rfl (Nat.le_of_ble_eq_true rfl) ?_
  intro p e s m below meth c C hr ls hl
  have C : zz_C E RX9 cX9_feed 4 wsX9_feed p s m [.ref (E.1 + a0), .int x1, .int x2].toArray meth c := C
  have hl : lv_has ls 4 [(0, .ref (E.1 + a0)), (1, .int x1), (2, .int x2)] := hl
  unfold f_X9_feed
  refine zz_iload_n C dX9_feed_0 rfl (lv_at hl 2 rfl) ?_
  refine zz_iconst (v := 1) C dX9_feed_1 (by decide) ?_
  refine zz_iconst (v := 4) C dX9_feed_2 (by decide) ?_
  refine zz_callSi (As := [.int x2, .int (1 : Int32), .int (4 : Int32)]) (rest := []) C (m_X9_in l E x2 (1 : Int32) (4 : Int32)  M) (va_cwS 3 C.1.2.2.2.2 gX9_feed_X9_in rfl rfl rfl hdS_X9_in ⟨Nat.le_of_ble_eq_true rfl, Nat.le_of_ble_eq_true rfl⟩) rfl hl.1 rfl (Nat.le_of_ble_eq_true rfl) dX9_feed_3 (fun r_1 M_2 => ?_)
  refine zz_if_ne (tgt := 16) C dX9_feed_6 (by decide) (fun c_3 => ?_) (fun c_3 => ?_)
  · refine zz_aload_n C dX9_feed_9 rfl (lv_at hl 0 rfl) ?_
    refine zz_ldc (v := -1000000001) C (List.mem_of_getElem? (i := 1) rfl) dX9_feed_10 ?_
    refine zz_callVi (As := [.int (-1000000001 : Int32)]) (rest := []) C (m_X9_finds l E a0 (-1000000001 : Int32) h0 M_2) (cwV 1 C.1.2.2.2.2 gX9_feed_X9_finds rfl rfl rfl hdV_X9_finds ⟨Nat.le_of_ble_eq_true rfl, Nat.le_of_ble_eq_true rfl⟩) (zz_lt h0 (by decide)) (zz_c9 h0) rfl rfl hl.1 rfl (Nat.le_of_ble_eq_true rfl) dX9_feed_12 (fun r_8 M_9 => ?_)
    exact zz_iret C hr dX9_feed_15
  · refine zz_aload_n C dX9_feed_16 rfl (lv_at hl 0 rfl) ?_
    refine zz_get C (zz_lt h0 (by decide)) (zz_c9 h0) rfl in_X9_feed_X9 6 (by decide) (List.mem_of_getElem? (i := 2) rfl) rfl dX9_feed_17 ?_
    refine zz_iload_n C dX9_feed_20 rfl (lv_at hl 2 rfl) ?_
    refine zz_iadd C dX9_feed_21 ?_
    refine zz_bipush (v := 120) C dX9_feed_22 (by decide) ?_
    refine zz_icmp_le (tgt := 34) C dX9_feed_24 (by decide) (fun c_4 => ?_) (fun c_4 => ?_)
    · refine zz_iload_n C dX9_feed_34 rfl (lv_at hl 2 rfl) ?_
      refine zz_iconst (v := 1) C dX9_feed_35 (by decide) ?_
      refine zz_isub C dX9_feed_36 ?_
      refine zz_istore_n C (fun x3_5 => [(3, .int x3_5), (0, .ref (E.1 + a0)), (1, .int x1), (2, .int x2)]) dX9_feed_37 rfl hl (by decide) (fun _ => rfl) (fun x3_5 ls hl => ?_)
      exact wb_X9_feed_38 C hr  zz_fuel a0 x1 x3_5 h0 M_2 ls (lv_sub hl [1, 2, 0] rfl)
    · refine zz_aload_n C dX9_feed_27 rfl (lv_at hl 0 rfl) ?_
      refine zz_ldc (v := -1000000002) C (List.mem_of_getElem? (i := 3) rfl) dX9_feed_28 ?_
      refine zz_callVi (As := [.int (-1000000002 : Int32)]) (rest := []) C (m_X9_finds l E a0 (-1000000002 : Int32) h0 M_2) (cwV 1 C.1.2.2.2.2 gX9_feed_X9_finds rfl rfl rfl hdV_X9_finds ⟨Nat.le_of_ble_eq_true rfl, Nat.le_of_ble_eq_true rfl⟩) (zz_lt h0 (by decide)) (zz_c9 h0) rfl rfl hl.1 rfl (Nat.le_of_ble_eq_true rfl) dX9_feed_30 (fun r_6 M_7 => ?_)
      exact zz_iret C hr dX9_feed_33
-- X9_wipe ('X9', 'wipe', '()I')
theorem in_X9_wipe_X9 : ∀ w ∈ u_ws RX9 TX9 20, w ∈ wsX9_wipe := fun _ h => List.mem_cons_of_mem _ (List.mem_append_right _ h)
def f_X9_wipe (a0 : Nat) (M : zz_M) : Option (Int32 × zz_M) := zz_w (zz_i M a0 6) (fun x1_1 => zz_w (zz_si M a0 6 (0 : Int32)) (fun M_2 => some (x1_1, M_2)))
set_option maxRecDepth 100000 in
set_option maxHeartbeats 4000000 in
theorem m_X9_wipe (l : Launch) (E : zz_E) (a0 : Nat) (h0 : zz_sh a0 = 9) (M : zz_M) : zz_Met (zz_pi E) l yX9_wipe wsX9_wipe 1 E [.ref (E.1 + a0)] M (f_X9_wipe a0 M) := by
  refine zz_met (cc := cX9_wipe) (nL := 2) (ret := (some .int)) (by decide) rfl (Nat.le_of_ble_eq_true rfl) ?_
  intro p e s m below meth c C hr ls hl
  have C : zz_C E RX9 cX9_wipe 2 wsX9_wipe p s m [.ref (E.1 + a0)].toArray meth c := C
  have hl : lv_has ls 2 [(0, .ref (E.1 + a0))] := hl
  unfold f_X9_wipe
  refine zz_aload_n C dX9_wipe_0 rfl (lv_at hl 0 rfl) ?_
  refine zz_get C (zz_lt h0 (by decide)) (zz_c9 h0) rfl in_X9_wipe_X9 6 (by decide) (List.mem_of_getElem? (i := 1) rfl) rfl dX9_wipe_1 ?_
  refine zz_istore_n C (fun x1_1 => [(1, .int x1_1), (0, .ref (E.1 + a0))]) dX9_wipe_4 rfl hl (by decide) (fun _ => rfl) (fun x1_1 ls hl => ?_)
  refine zz_aload_n C dX9_wipe_5 rfl (lv_at hl 1 rfl) ?_
  refine zz_iconst (v := 0) C dX9_wipe_6 (by decide) ?_
  refine zz_put (M1 := zz_si M a0 6 (0 : Int32)) C (zz_lt h0 (by decide)) (zz_c9 h0) rfl in_X9_wipe_X9 tyX9 tyX9_ok nmX9 6 (by decide) (List.mem_of_getElem? (i := 1) rfl) rfl rfl rfl (Nat.le_of_ble_eq_true rfl) (zz_p9_6 h0) zz_cell_si dX9_wipe_7 (fun M_2 => ?_)
  refine zz_iload_n C dX9_wipe_10 rfl (lv_at hl 0 rfl) ?_
  exact zz_iret C hr dX9_wipe_11
-- X9_byteAt ('X9', 'byteAt', '(I)I')
theorem in_X9_byteAt_X9 : ∀ w ∈ u_ws RX9 TX9 20, w ∈ wsX9_byteAt := fun _ h => List.mem_cons_of_mem _ (List.mem_append_right _ h)
def f_X9_byteAt (a0 : Nat) (x1 : Int32) (M : zz_M) : Option (Int32 × zz_M) := (if (zz_i M a0 6) ≤ x1 then some ((-1 : Int32), M) else (if zz_in x1 120 = true then some ((zz_i M 134 (zz_n x1)), M) else none))
set_option maxRecDepth 100000 in
set_option maxHeartbeats 4000000 in
theorem m_X9_byteAt (l : Launch) (E : zz_E) (a0 : Nat) (x1 : Int32) (h0 : zz_sh a0 = 9) (M : zz_M) : zz_Met (zz_pi E) l yX9_byteAt wsX9_byteAt 1 E [.ref (E.1 + a0), .int x1] M (f_X9_byteAt a0 x1 M) := by
  refine zz_met (cc := cX9_byteAt) (nL := 2) (ret := (some .int)) (by decide) rfl (Nat.le_of_ble_eq_true rfl) ?_
  intro p e s m below meth c C hr ls hl
  have C : zz_C E RX9 cX9_byteAt 2 wsX9_byteAt p s m [.ref (E.1 + a0), .int x1].toArray meth c := C
  have hl : lv_has ls 2 [(0, .ref (E.1 + a0)), (1, .int x1)] := hl
  unfold f_X9_byteAt
  refine zz_iload_n C dX9_byteAt_0 rfl (lv_at hl 1 rfl) ?_
  refine zz_aload_n C dX9_byteAt_1 rfl (lv_at hl 0 rfl) ?_
  refine zz_get C (zz_lt h0 (by decide)) (zz_c9 h0) rfl in_X9_byteAt_X9 6 (by decide) (List.mem_of_getElem? (i := 1) rfl) rfl dX9_byteAt_2 ?_
  refine zz_icmp_ge (tgt := 17) C dX9_byteAt_5 (by decide) (fun c_1 => ?_) (fun c_1 => ?_)
  · refine zz_iconst (v := -1) C dX9_byteAt_17 (by decide) ?_
    exact zz_iret C hr dX9_byteAt_18
  · refine zz_aload_n C dX9_byteAt_8 rfl (lv_at hl 0 rfl) ?_
    refine zz_get C (zz_lt h0 (by decide)) (zz_c9 h0) rfl in_X9_byteAt_X9 5 (by decide) (List.mem_of_getElem? (i := 2) rfl) rfl dX9_byteAt_9 ?_
    refine zz_iload_n C dX9_byteAt_12 rfl (lv_at hl 1 rfl) ?_
    refine zz_iald C (zz_lt (zz_s9_5 h0) (by decide)) (zz_c11 (zz_s9_5 h0)) dX9_byteAt_13 ?_
    refine zz_goto (tgt := 18) C dX9_byteAt_14 (by decide) ?_
    exact zz_iret C hr dX9_byteAt_18
-- X9_isLetter ('X9', 'isLetter', '(I)Z')
def f_X9_isLetter (x0 : Int32) (M : zz_M) : Option (Int32 × zz_M) := zz_bd (f_X9_in x0 (97 : Int32) (122 : Int32) M) (fun r_1 M_2 => (if zz_bit r_1 = true then some (r_1, M_2) else none))
set_option maxRecDepth 100000 in
set_option maxHeartbeats 4000000 in
theorem m_X9_isLetter (l : Launch) (E : zz_E) (x0 : Int32)  (M : zz_M) : zz_Met (zz_pi E) l yX9_isLetter wsX9_isLetter 2 E [.int x0] M (f_X9_isLetter x0 M) := by
  refine zz_met (cc := cX9_isLetter) (nL := 1) (ret := (some .boolean)) (by decide) rfl (Nat.le_of_ble_eq_true rfl) ?_
  intro p e s m below meth c C hr ls hl
  have C : zz_C E RX9 cX9_isLetter 1 wsX9_isLetter p s m [.int x0].toArray meth c := C
  have hl : lv_has ls 1 [(0, .int x0)] := hl
  unfold f_X9_isLetter
  refine zz_iload_n C dX9_isLetter_0 rfl (lv_at hl 0 rfl) ?_
  refine zz_bipush (v := 97) C dX9_isLetter_1 (by decide) ?_
  refine zz_bipush (v := 122) C dX9_isLetter_3 (by decide) ?_
  refine zz_callSi (As := [.int x0, .int (97 : Int32), .int (122 : Int32)]) (rest := []) C (m_X9_in l E x0 (97 : Int32) (122 : Int32)  M) (va_cwS 3 C.1.2.2.2.2 gX9_isLetter_X9_in rfl rfl rfl hdS_X9_in ⟨Nat.le_of_ble_eq_true rfl, Nat.le_of_ble_eq_true rfl⟩) rfl hl.1 rfl (Nat.le_of_ble_eq_true rfl) dX9_isLetter_5 (fun r_1 M_2 => ?_)
  exact zz_zret C hr dX9_isLetter_8
-- X9_isDigit ('X9', 'isDigit', '(I)Z')
def f_X9_isDigit (x0 : Int32) (M : zz_M) : Option (Int32 × zz_M) := zz_bd (f_X9_in x0 (48 : Int32) (57 : Int32) M) (fun r_1 M_2 => (if zz_bit r_1 = true then some (r_1, M_2) else none))
set_option maxRecDepth 100000 in
set_option maxHeartbeats 4000000 in
theorem m_X9_isDigit (l : Launch) (E : zz_E) (x0 : Int32)  (M : zz_M) : zz_Met (zz_pi E) l yX9_isDigit wsX9_isDigit 2 E [.int x0] M (f_X9_isDigit x0 M) := by
  refine zz_met (cc := cX9_isDigit) (nL := 1) (ret := (some .boolean)) (by decide) rfl (Nat.le_of_ble_eq_true rfl) ?_
  intro p e s m below meth c C hr ls hl
  have C : zz_C E RX9 cX9_isDigit 1 wsX9_isDigit p s m [.int x0].toArray meth c := C
  have hl : lv_has ls 1 [(0, .int x0)] := hl
  unfold f_X9_isDigit
  refine zz_iload_n C dX9_isDigit_0 rfl (lv_at hl 0 rfl) ?_
  refine zz_bipush (v := 48) C dX9_isDigit_1 (by decide) ?_
  refine zz_bipush (v := 57) C dX9_isDigit_3 (by decide) ?_
  refine zz_callSi (As := [.int x0, .int (48 : Int32), .int (57 : Int32)]) (rest := []) C (m_X9_in l E x0 (48 : Int32) (57 : Int32)  M) (va_cwS 3 C.1.2.2.2.2 gX9_isDigit_X9_in rfl rfl rfl hdS_X9_in ⟨Nat.le_of_ble_eq_true rfl, Nat.le_of_ble_eq_true rfl⟩) rfl hl.1 rfl (Nat.le_of_ble_eq_true rfl) dX9_isDigit_5 (fun r_1 M_2 => ?_)
  exact zz_zret C hr dX9_isDigit_8
-- X9_advance ('X9', 'advance', '()V')
theorem in_X9_advance_X9 : ∀ w ∈ u_ws RX9 TX9 20, w ∈ wsX9_advance := fun _ h => List.mem_cons_of_mem _ (List.mem_append_right _ h)
theorem hdS_X9_isDigit : yX9_isDigit.cls ≠ "java/lang/invoke/MethodHandle" ∧ yX9_isDigit.cls ≠ "java/lang/invoke/VarHandle" ∧ (parseMethodDescriptor yX9_isDigit.desc).map (fun d => d.parameters.length) = some 1 := by decide +kernel
theorem hdS_X9_isLetter : yX9_isLetter.cls ≠ "java/lang/invoke/MethodHandle" ∧ yX9_isLetter.cls ≠ "java/lang/invoke/VarHandle" ∧ (parseMethodDescriptor yX9_isLetter.desc).map (fun d => d.parameters.length) = some 1 := by decide +kernel
theorem hdV_X9_byteAt : yX9_byteAt.cls = RX9 ∧ yX9_byteAt.cls ≠ "java/lang/invoke/MethodHandle" ∧ yX9_byteAt.cls ≠ "java/lang/invoke/VarHandle" ∧ (parseMethodDescriptor yX9_byteAt.desc).map (fun d => d.parameters.length) = some 1 := by decide +kernel
def b_X9_advance_264 (k207 : Nat → zz_M → Option (Unit × zz_M)) (a0 : Nat) (st0 : Int32) (rt1 : Nat) (M : zz_M) : Option (Unit × zz_M) := zz_w (zz_si M rt1 11 st0) (fun M_42 => zz_w (zz_si M_42 a0 9 ((zz_i M_42 a0 9) + (1 : Int32))) (fun M_43 => k207 a0 M_43))
set_option maxRecDepth 100000 in
set_option maxHeartbeats 4000000 in
theorem wb_X9_advance_264 {p : Program} {l : Launch} {e : Env} {s : State} {m : MethodId} {args : Array Value} {below : List Frame} {meth : Method} {c : Code} {E : zz_E} (C : zz_C E RX9 cX9_advance 2 wsX9_advance p s m args meth c) (hr : meth.sig.returnType = none) {k207 : Nat → zz_M → Option (Unit × zz_M)} (hk207 : ∀ (a0 : Nat) (ha0 : zz_sh a0 = 9) (M : zz_M) (ls : Array Slot), lv_has ls 2 [(0, .ref (E.1 + a0))] → zz_Z E p l e (zz_rm 3) s m args below meth c (zz_Q (zz_pv E) E below args s) (k207 a0 M) M (F0 m 207 ls [])) : ∀ (a0 : Nat) (st0 : Int32) (rt1 : Nat) (ha0 : zz_sh a0 = 9) (hrt1 : zz_sh rt1 = 9) (M : zz_M) (ls : Array Slot), lv_has ls 2 [(0, .ref (E.1 + a0))] → zz_Z E p l e (zz_rm 3) s m args below meth c (zz_Q (zz_pv E) E below args s) (b_X9_advance_264 k207 a0 st0 rt1 M) M (F0 m 264 ls [.int st0, .ref (E.1 + rt1)]) := by
  intro a0 st0 rt1 ha0 hrt1 M ls hl
  unfold b_X9_advance_264
  refine zz_put (M1 := zz_si M rt1 11 st0) C (zz_lt hrt1 (by decide)) (zz_c9 hrt1) rfl in_X9_advance_X9 tyX9 tyX9_ok nmX9 11 (by decide) (List.mem_of_getElem? (i := 5) rfl) rfl rfl rfl (Nat.le_of_ble_eq_true rfl) (zz_p9_11 hrt1) zz_cell_si dX9_advance_264 (fun M_42 => ?_)
  refine zz_aload_n C dX9_advance_267 rfl (lv_at hl 0 rfl) ?_
  refine zz_dup C dX9_advance_268 rfl ?_
  refine zz_get C (zz_lt ha0 (by decide)) (zz_c9 ha0) rfl in_X9_advance_X9 9 (by decide) (List.mem_of_getElem? (i := 1) rfl) rfl dX9_advance_269 ?_
  refine zz_iconst (v := 1) C dX9_advance_272 (by decide) ?_
  refine zz_iadd C dX9_advance_273 ?_
  refine zz_put (M1 := zz_si M_42 a0 9 ((zz_i M_42 a0 9) + (1 : Int32))) C (zz_lt ha0 (by decide)) (zz_c9 ha0) rfl in_X9_advance_X9 tyX9 tyX9_ok nmX9 9 (by decide) (List.mem_of_getElem? (i := 1) rfl) rfl rfl rfl (Nat.le_of_ble_eq_true rfl) (zz_p9_9 ha0) zz_cell_si dX9_advance_274 (fun M_43 => ?_)
  refine zz_goto (tgt := 207) C dX9_advance_277 (by decide) ?_
  exact hk207 a0 ha0 M_43 ls (lv_sub hl [0] rfl)
def b_X9_advance_207 : Nat → Nat → zz_M → Option (Unit × zz_M)
  | 0 => fun _ _ => none
  | n + 1 => fun a0 M => (if (zz_i M a0 7) = (2 : Int32) then zz_bd (f_X9_byteAt a0 (zz_i M a0 9) M) (fun r_32 M_33 => zz_bd (f_X9_isDigit r_32 M_33) (fun r_34 M_35 => (if r_34 = 0 then some ((), M_35) else (if (zz_i M_35 a0 11) ≤ (9999 : Int32) then zz_bd (f_X9_byteAt a0 (zz_i M_35 a0 9) M_35) (fun r_38 M_39 => b_X9_advance_264 (b_X9_advance_207 n) a0 ((((10 : Int32) * (zz_i M_35 a0 11)) + r_38) - (48 : Int32)) a0 M_39) else b_X9_advance_264 (b_X9_advance_207 n) a0 (100000 : Int32) a0 M_35)))) else some ((), M))
set_option maxRecDepth 100000 in
set_option maxHeartbeats 4000000 in
theorem wb_X9_advance_207 {p : Program} {l : Launch} {e : Env} {s : State} {m : MethodId} {args : Array Value} {below : List Frame} {meth : Method} {c : Code} {E : zz_E} (C : zz_C E RX9 cX9_advance 2 wsX9_advance p s m args meth c) (hr : meth.sig.returnType = none) : ∀ (n : Nat) (a0 : Nat) (ha0 : zz_sh a0 = 9) (M : zz_M) (ls : Array Slot), lv_has ls 2 [(0, .ref (E.1 + a0))] → zz_Z E p l e (zz_rm 3) s m args below meth c (zz_Q (zz_pv E) E below args s) (b_X9_advance_207 n a0 M) M (F0 m 207 ls []) := by
  intro n
  induction n with
  | zero => intro a0 ha0 M ls hl; exact zz_none
  | succ n ih =>
    intro a0 ha0 M ls hl
    rw [b_X9_advance_207]
    refine zz_aload_n C dX9_advance_207 rfl (lv_at hl 0 rfl) ?_
    refine zz_get C (zz_lt ha0 (by decide)) (zz_c9 ha0) rfl in_X9_advance_X9 7 (by decide) (List.mem_of_getElem? (i := 3) rfl) rfl dX9_advance_208 ?_
    refine zz_iconst (v := 2) C dX9_advance_211 (by decide) ?_
    refine zz_icmp_ne (tgt := 280) C dX9_advance_212 (by decide) (fun c_31 => ?_) (fun c_31 => ?_)
    · refine zz_aload_n C dX9_advance_215 rfl (lv_at hl 0 rfl) ?_
      refine zz_aload_n C dX9_advance_216 rfl (lv_at hl 0 rfl) ?_
      refine zz_get C (zz_lt ha0 (by decide)) (zz_c9 ha0) rfl in_X9_advance_X9 9 (by decide) (List.mem_of_getElem? (i := 1) rfl) rfl dX9_advance_217 ?_
      refine zz_callVi (As := [.int (zz_i M a0 9)]) (rest := []) C (m_X9_byteAt l E a0 (zz_i M a0 9) ha0 M) (cwV 1 C.1.2.2.2.2 gX9_advance_X9_byteAt rfl rfl rfl hdV_X9_byteAt ⟨Nat.le_of_ble_eq_true rfl, Nat.le_of_ble_eq_true rfl⟩) (zz_lt ha0 (by decide)) (zz_c9 ha0) rfl rfl hl.1 rfl (Nat.le_of_ble_eq_true rfl) dX9_advance_220 (fun r_32 M_33 => ?_)
      refine zz_callSi (As := [.int r_32]) (rest := []) C (m_X9_isDigit l E r_32  M_33) (va_cwS 1 C.1.2.2.2.2 gX9_advance_X9_isDigit rfl rfl rfl hdS_X9_isDigit ⟨Nat.le_of_ble_eq_true rfl, Nat.le_of_ble_eq_true rfl⟩) rfl hl.1 rfl (Nat.le_of_ble_eq_true rfl) dX9_advance_223 (fun r_34 M_35 => ?_)
      refine zz_if_eq (tgt := 280) C dX9_advance_226 (by decide) (fun c_36 => ?_) (fun c_36 => ?_)
      · exact zz_vret C hr dX9_advance_280
      · refine zz_aload_n C dX9_advance_229 rfl (lv_at hl 0 rfl) ?_
        refine zz_aload_n C dX9_advance_230 rfl (lv_at hl 0 rfl) ?_
        refine zz_get C (zz_lt ha0 (by decide)) (zz_c9 ha0) rfl in_X9_advance_X9 11 (by decide) (List.mem_of_getElem? (i := 5) rfl) rfl dX9_advance_231 ?_
        refine zz_sipush (v := 9999) C dX9_advance_234 (by decide) ?_
        refine zz_icmp_le (tgt := 245) C dX9_advance_237 (by decide) (fun c_37 => ?_) (fun c_37 => ?_)
        · refine zz_bipush (v := 10) C dX9_advance_245 (by decide) ?_
          refine zz_aload_n C dX9_advance_247 rfl (lv_at hl 0 rfl) ?_
          refine zz_get C (zz_lt ha0 (by decide)) (zz_c9 ha0) rfl in_X9_advance_X9 11 (by decide) (List.mem_of_getElem? (i := 5) rfl) rfl dX9_advance_248 ?_
          refine zz_imul C dX9_advance_251 ?_
          refine zz_aload_n C dX9_advance_252 rfl (lv_at hl 0 rfl) ?_
          refine zz_aload_n C dX9_advance_253 rfl (lv_at hl 0 rfl) ?_
          refine zz_get C (zz_lt ha0 (by decide)) (zz_c9 ha0) rfl in_X9_advance_X9 9 (by decide) (List.mem_of_getElem? (i := 1) rfl) rfl dX9_advance_254 ?_
          refine zz_callVi (As := [.int (zz_i M_35 a0 9)]) (rest := [.int ((10 : Int32) * (zz_i M_35 a0 11)), .ref (E.1 + a0)]) C (m_X9_byteAt l E a0 (zz_i M_35 a0 9) ha0 M_35) (cwV 1 C.1.2.2.2.2 gX9_advance_X9_byteAt rfl rfl rfl hdV_X9_byteAt ⟨Nat.le_of_ble_eq_true rfl, Nat.le_of_ble_eq_true rfl⟩) (zz_lt ha0 (by decide)) (zz_c9 ha0) rfl rfl hl.1 rfl (Nat.le_of_ble_eq_true rfl) dX9_advance_257 (fun r_38 M_39 => ?_)
          refine zz_iadd C dX9_advance_260 ?_
          refine zz_bipush (v := 48) C dX9_advance_261 (by decide) ?_
          refine zz_isub C dX9_advance_263 ?_
          exact wb_X9_advance_264 C hr ih a0 ((((10 : Int32) * (zz_i M_35 a0 11)) + r_38) - (48 : Int32)) a0 ha0 ha0 M_39 ls (lv_sub hl [0] rfl)
        · refine zz_ldc (v := 100000) C (List.mem_of_getElem? (i := 9) rfl) dX9_advance_240 ?_
          refine zz_goto (tgt := 264) C dX9_advance_242 (by decide) ?_
          exact wb_X9_advance_264 C hr ih a0 (100000 : Int32) a0 ha0 ha0 M_35 ls (lv_sub hl [0] rfl)
    · exact zz_vret C hr dX9_advance_280
def b_X9_advance_191 (k126 : Nat → zz_M → Option (Unit × zz_M)) (a0 : Nat) (st0 : Int64) (rt1 : Nat) (M : zz_M) : Option (Unit × zz_M) := zz_w (zz_sj M rt1 10 st0) (fun M_40 => zz_w (zz_si M_40 a0 9 ((zz_i M_40 a0 9) + (1 : Int32))) (fun M_41 => k126 a0 M_41))
set_option maxRecDepth 100000 in
set_option maxHeartbeats 4000000 in
theorem wb_X9_advance_191 {p : Program} {l : Launch} {e : Env} {s : State} {m : MethodId} {args : Array Value} {below : List Frame} {meth : Method} {c : Code} {E : zz_E} (C : zz_C E RX9 cX9_advance 2 wsX9_advance p s m args meth c) (hr : meth.sig.returnType = none) {k126 : Nat → zz_M → Option (Unit × zz_M)} (hk126 : ∀ (a0 : Nat) (ha0 : zz_sh a0 = 9) (M : zz_M) (ls : Array Slot), lv_has ls 2 [(0, .ref (E.1 + a0))] → zz_Z E p l e (zz_rm 3) s m args below meth c (zz_Q (zz_pv E) E below args s) (k126 a0 M) M (F0 m 126 ls [])) : ∀ (a0 : Nat) (st0 : Int64) (rt1 : Nat) (ha0 : zz_sh a0 = 9) (hrt1 : zz_sh rt1 = 9) (M : zz_M) (ls : Array Slot), lv_has ls 2 [(0, .ref (E.1 + a0))] → zz_Z E p l e (zz_rm 3) s m args below meth c (zz_Q (zz_pv E) E below args s) (b_X9_advance_191 k126 a0 st0 rt1 M) M (F0 m 191 ls [.long st0, .ref (E.1 + rt1)]) := by
  intro a0 st0 rt1 ha0 hrt1 M ls hl
  unfold b_X9_advance_191
  refine zz_put (M1 := zz_sj M rt1 10 st0) C (zz_lt hrt1 (by decide)) (zz_c9 hrt1) rfl in_X9_advance_X9 tyX9 tyX9_ok nmX9 10 (by decide) (List.mem_of_getElem? (i := 4) rfl) rfl rfl rfl (Nat.le_of_ble_eq_true rfl) (zz_p9_10 hrt1) zz_cell_sj dX9_advance_191 (fun M_40 => ?_)
  refine zz_aload_n C dX9_advance_194 rfl (lv_at hl 0 rfl) ?_
  refine zz_dup C dX9_advance_195 rfl ?_
  refine zz_get C (zz_lt ha0 (by decide)) (zz_c9 ha0) rfl in_X9_advance_X9 9 (by decide) (List.mem_of_getElem? (i := 1) rfl) rfl dX9_advance_196 ?_
  refine zz_iconst (v := 1) C dX9_advance_199 (by decide) ?_
  refine zz_iadd C dX9_advance_200 ?_
  refine zz_put (M1 := zz_si M_40 a0 9 ((zz_i M_40 a0 9) + (1 : Int32))) C (zz_lt ha0 (by decide)) (zz_c9 ha0) rfl in_X9_advance_X9 tyX9 tyX9_ok nmX9 9 (by decide) (List.mem_of_getElem? (i := 1) rfl) rfl rfl rfl (Nat.le_of_ble_eq_true rfl) (zz_p9_9 ha0) zz_cell_si dX9_advance_201 (fun M_41 => ?_)
  refine zz_goto (tgt := 126) C dX9_advance_204 (by decide) ?_
  exact hk126 a0 ha0 M_41 ls (lv_sub hl [0] rfl)
def b_X9_advance_126 : Nat → Nat → zz_M → Option (Unit × zz_M)
  | 0 => fun _ _ => none
  | n + 1 => fun a0 M => (if (zz_i M a0 7) = (1 : Int32) then zz_bd (f_X9_byteAt a0 (zz_i M a0 9) M) (fun r_23 M_24 => zz_bd (f_X9_isLetter r_23 M_24) (fun r_25 M_26 => (if r_25 = 0 then b_X9_advance_207  zz_fuel a0 M_26 else (if (12 : Int32) ≤ ((zz_i M_26 a0 9) - (zz_i M_26 a0 8)) then b_X9_advance_191 (b_X9_advance_126 n) a0 (-1 : Int64) a0 M_26 else zz_bd (f_X9_byteAt a0 (zz_i M_26 a0 9) M_26) (fun r_29 M_30 => b_X9_advance_191 (b_X9_advance_126 n) a0 ((((27 : Int64) * (zz_j M_26 a0 10)) + (r_29.toInt64)) - (96 : Int64)) a0 M_30))))) else b_X9_advance_207  zz_fuel a0 M)
set_option maxRecDepth 100000 in
set_option maxHeartbeats 4000000 in
theorem wb_X9_advance_126 {p : Program} {l : Launch} {e : Env} {s : State} {m : MethodId} {args : Array Value} {below : List Frame} {meth : Method} {c : Code} {E : zz_E} (C : zz_C E RX9 cX9_advance 2 wsX9_advance p s m args meth c) (hr : meth.sig.returnType = none) : ∀ (n : Nat) (a0 : Nat) (ha0 : zz_sh a0 = 9) (M : zz_M) (ls : Array Slot), lv_has ls 2 [(0, .ref (E.1 + a0))] → zz_Z E p l e (zz_rm 3) s m args below meth c (zz_Q (zz_pv E) E below args s) (b_X9_advance_126 n a0 M) M (F0 m 126 ls []) := by
  intro n
  induction n with
  | zero => intro a0 ha0 M ls hl; exact zz_none
  | succ n ih =>
    intro a0 ha0 M ls hl
    rw [b_X9_advance_126]
    refine zz_aload_n C dX9_advance_126 rfl (lv_at hl 0 rfl) ?_
    refine zz_get C (zz_lt ha0 (by decide)) (zz_c9 ha0) rfl in_X9_advance_X9 7 (by decide) (List.mem_of_getElem? (i := 3) rfl) rfl dX9_advance_127 ?_
    refine zz_iconst (v := 1) C dX9_advance_130 (by decide) ?_
    refine zz_icmp_ne (tgt := 207) C dX9_advance_131 (by decide) (fun c_22 => ?_) (fun c_22 => ?_)
    · refine zz_aload_n C dX9_advance_134 rfl (lv_at hl 0 rfl) ?_
      refine zz_aload_n C dX9_advance_135 rfl (lv_at hl 0 rfl) ?_
      refine zz_get C (zz_lt ha0 (by decide)) (zz_c9 ha0) rfl in_X9_advance_X9 9 (by decide) (List.mem_of_getElem? (i := 1) rfl) rfl dX9_advance_136 ?_
      refine zz_callVi (As := [.int (zz_i M a0 9)]) (rest := []) C (m_X9_byteAt l E a0 (zz_i M a0 9) ha0 M) (cwV 1 C.1.2.2.2.2 gX9_advance_X9_byteAt rfl rfl rfl hdV_X9_byteAt ⟨Nat.le_of_ble_eq_true rfl, Nat.le_of_ble_eq_true rfl⟩) (zz_lt ha0 (by decide)) (zz_c9 ha0) rfl rfl hl.1 rfl (Nat.le_of_ble_eq_true rfl) dX9_advance_139 (fun r_23 M_24 => ?_)
      refine zz_callSi (As := [.int r_23]) (rest := []) C (m_X9_isLetter l E r_23  M_24) (va_cwS 1 C.1.2.2.2.2 gX9_advance_X9_isLetter rfl rfl rfl hdS_X9_isLetter ⟨Nat.le_of_ble_eq_true rfl, Nat.le_of_ble_eq_true rfl⟩) rfl hl.1 rfl (Nat.le_of_ble_eq_true rfl) dX9_advance_142 (fun r_25 M_26 => ?_)
      refine zz_if_eq (tgt := 207) C dX9_advance_145 (by decide) (fun c_27 => ?_) (fun c_27 => ?_)
      · exact wb_X9_advance_207 C hr  zz_fuel a0 ha0 M_26 ls (lv_sub hl [0] rfl)
      · refine zz_aload_n C dX9_advance_148 rfl (lv_at hl 0 rfl) ?_
        refine zz_aload_n C dX9_advance_149 rfl (lv_at hl 0 rfl) ?_
        refine zz_get C (zz_lt ha0 (by decide)) (zz_c9 ha0) rfl in_X9_advance_X9 9 (by decide) (List.mem_of_getElem? (i := 1) rfl) rfl dX9_advance_150 ?_
        refine zz_aload_n C dX9_advance_153 rfl (lv_at hl 0 rfl) ?_
        refine zz_get C (zz_lt ha0 (by decide)) (zz_c9 ha0) rfl in_X9_advance_X9 8 (by decide) (List.mem_of_getElem? (i := 2) rfl) rfl dX9_advance_154 ?_
        refine zz_isub C dX9_advance_157 ?_
        refine zz_bipush (v := 12) C dX9_advance_158 (by decide) ?_
        refine zz_icmp_ge (tgt := 188) C dX9_advance_160 (by decide) (fun c_28 => ?_) (fun c_28 => ?_)
        · refine zz_ldc2 (v := -1) C (List.mem_of_getElem? (i := 8) rfl) dX9_advance_188 ?_
          exact wb_X9_advance_191 C hr ih a0 (-1 : Int64) a0 ha0 ha0 M_26 ls (lv_sub hl [0] rfl)
        · refine zz_ldc2 (v := 27) C (List.mem_of_getElem? (i := 6) rfl) dX9_advance_163 ?_
          refine zz_aload_n C dX9_advance_166 rfl (lv_at hl 0 rfl) ?_
          refine zz_get C (zz_lt ha0 (by decide)) (zz_c9 ha0) rfl in_X9_advance_X9 10 (by decide) (List.mem_of_getElem? (i := 4) rfl) rfl dX9_advance_167 ?_
          refine zz_lmul C dX9_advance_170 ?_
          refine zz_aload_n C dX9_advance_171 rfl (lv_at hl 0 rfl) ?_
          refine zz_aload_n C dX9_advance_172 rfl (lv_at hl 0 rfl) ?_
          refine zz_get C (zz_lt ha0 (by decide)) (zz_c9 ha0) rfl in_X9_advance_X9 9 (by decide) (List.mem_of_getElem? (i := 1) rfl) rfl dX9_advance_173 ?_
          refine zz_callVi (As := [.int (zz_i M_26 a0 9)]) (rest := [.long ((27 : Int64) * (zz_j M_26 a0 10)), .ref (E.1 + a0)]) C (m_X9_byteAt l E a0 (zz_i M_26 a0 9) ha0 M_26) (cwV 1 C.1.2.2.2.2 gX9_advance_X9_byteAt rfl rfl rfl hdV_X9_byteAt ⟨Nat.le_of_ble_eq_true rfl, Nat.le_of_ble_eq_true rfl⟩) (zz_lt ha0 (by decide)) (zz_c9 ha0) rfl rfl hl.1 rfl (Nat.le_of_ble_eq_true rfl) dX9_advance_176 (fun r_29 M_30 => ?_)
          refine zz_i2l C dX9_advance_179 ?_
          refine zz_ladd C dX9_advance_180 ?_
          refine zz_ldc2 (v := 96) C (List.mem_of_getElem? (i := 7) rfl) dX9_advance_181 ?_
          refine zz_lsub C dX9_advance_184 ?_
          refine zz_goto (tgt := 191) C dX9_advance_185 (by decide) ?_
          exact wb_X9_advance_191 C hr ih a0 ((((27 : Int64) * (zz_j M_26 a0 10)) + (r_29.toInt64)) - (96 : Int64)) a0 ha0 ha0 M_30 ls (lv_sub hl [0] rfl)
    · exact wb_X9_advance_207 C hr  zz_fuel a0 ha0 M ls (lv_sub hl [0] rfl)
def b_X9_advance_105 (a0 : Nat) (st0 : Int32) (rt1 : Nat) (M : zz_M) : Option (Unit × zz_M) := zz_w (zz_si M rt1 11 st0) (fun M_19 => (if (zz_i M_19 a0 7) = (3 : Int32) then zz_w (zz_si M_19 a0 9 ((zz_i M_19 a0 9) + (1 : Int32))) (fun M_21 => b_X9_advance_126  zz_fuel a0 M_21) else b_X9_advance_126  zz_fuel a0 M_19))
set_option maxRecDepth 100000 in
set_option maxHeartbeats 4000000 in
theorem wb_X9_advance_105 {p : Program} {l : Launch} {e : Env} {s : State} {m : MethodId} {args : Array Value} {below : List Frame} {meth : Method} {c : Code} {E : zz_E} (C : zz_C E RX9 cX9_advance 2 wsX9_advance p s m args meth c) (hr : meth.sig.returnType = none) : ∀ (a0 : Nat) (st0 : Int32) (rt1 : Nat) (ha0 : zz_sh a0 = 9) (hrt1 : zz_sh rt1 = 9) (M : zz_M) (ls : Array Slot), lv_has ls 2 [(0, .ref (E.1 + a0))] → zz_Z E p l e (zz_rm 3) s m args below meth c (zz_Q (zz_pv E) E below args s) (b_X9_advance_105 a0 st0 rt1 M) M (F0 m 105 ls [.int st0, .ref (E.1 + rt1)]) := by
  intro a0 st0 rt1 ha0 hrt1 M ls hl
  unfold b_X9_advance_105
  refine zz_put (M1 := zz_si M rt1 11 st0) C (zz_lt hrt1 (by decide)) (zz_c9 hrt1) rfl in_X9_advance_X9 tyX9 tyX9_ok nmX9 11 (by decide) (List.mem_of_getElem? (i := 5) rfl) rfl rfl rfl (Nat.le_of_ble_eq_true rfl) (zz_p9_11 hrt1) zz_cell_si dX9_advance_105 (fun M_19 => ?_)
  refine zz_aload_n C dX9_advance_108 rfl (lv_at hl 0 rfl) ?_
  refine zz_get C (zz_lt ha0 (by decide)) (zz_c9 ha0) rfl in_X9_advance_X9 7 (by decide) (List.mem_of_getElem? (i := 3) rfl) rfl dX9_advance_109 ?_
  refine zz_iconst (v := 3) C dX9_advance_112 (by decide) ?_
  refine zz_icmp_ne (tgt := 126) C dX9_advance_113 (by decide) (fun c_20 => ?_) (fun c_20 => ?_)
  · refine zz_aload_n C dX9_advance_116 rfl (lv_at hl 0 rfl) ?_
    refine zz_dup C dX9_advance_117 rfl ?_
    refine zz_get C (zz_lt ha0 (by decide)) (zz_c9 ha0) rfl in_X9_advance_X9 9 (by decide) (List.mem_of_getElem? (i := 1) rfl) rfl dX9_advance_118 ?_
    refine zz_iconst (v := 1) C dX9_advance_121 (by decide) ?_
    refine zz_iadd C dX9_advance_122 ?_
    refine zz_put (M1 := zz_si M_19 a0 9 ((zz_i M_19 a0 9) + (1 : Int32))) C (zz_lt ha0 (by decide)) (zz_c9 ha0) rfl in_X9_advance_X9 tyX9 tyX9_ok nmX9 9 (by decide) (List.mem_of_getElem? (i := 1) rfl) rfl rfl rfl (Nat.le_of_ble_eq_true rfl) (zz_p9_9 ha0) zz_cell_si dX9_advance_123 (fun M_21 => ?_)
    exact wb_X9_advance_126 C hr  zz_fuel a0 ha0 M_21 ls (lv_sub hl [0] rfl)
  · exact wb_X9_advance_126 C hr  zz_fuel a0 ha0 M_19 ls (lv_sub hl [0] rfl)
def b_X9_advance_83 (a0 : Nat) (x1 : Int32) (st0 : Int32) (rt1 : Nat) (M : zz_M) : Option (Unit × zz_M) := zz_w (zz_si M rt1 7 st0) (fun M_16 => zz_w (zz_sj M_16 a0 10 (0 : Int64)) (fun M_17 => (if (zz_i M_17 a0 7) = (2 : Int32) then b_X9_advance_105  a0 (0 : Int32) a0 M_17 else b_X9_advance_105  a0 x1 a0 M_17)))
set_option maxRecDepth 100000 in
set_option maxHeartbeats 4000000 in
theorem wb_X9_advance_83 {p : Program} {l : Launch} {e : Env} {s : State} {m : MethodId} {args : Array Value} {below : List Frame} {meth : Method} {c : Code} {E : zz_E} (C : zz_C E RX9 cX9_advance 2 wsX9_advance p s m args meth c) (hr : meth.sig.returnType = none) : ∀ (a0 : Nat) (x1 : Int32) (st0 : Int32) (rt1 : Nat) (ha0 : zz_sh a0 = 9) (hrt1 : zz_sh rt1 = 9) (M : zz_M) (ls : Array Slot), lv_has ls 2 [(0, .ref (E.1 + a0)), (1, .int x1)] → zz_Z E p l e (zz_rm 3) s m args below meth c (zz_Q (zz_pv E) E below args s) (b_X9_advance_83 a0 x1 st0 rt1 M) M (F0 m 83 ls [.int st0, .ref (E.1 + rt1)]) := by
  intro a0 x1 st0 rt1 ha0 hrt1 M ls hl
  unfold b_X9_advance_83
  refine zz_put (M1 := zz_si M rt1 7 st0) C (zz_lt hrt1 (by decide)) (zz_c9 hrt1) rfl in_X9_advance_X9 tyX9 tyX9_ok nmX9 7 (by decide) (List.mem_of_getElem? (i := 3) rfl) rfl rfl rfl (Nat.le_of_ble_eq_true rfl) (zz_p9_7 hrt1) zz_cell_si dX9_advance_83 (fun M_16 => ?_)
  refine zz_aload_n C dX9_advance_86 rfl (lv_at hl 0 rfl) ?_
  refine zz_lconst (v := 0) C dX9_advance_87 rfl ?_
  refine zz_put (M1 := zz_sj M_16 a0 10 (0 : Int64)) C (zz_lt ha0 (by decide)) (zz_c9 ha0) rfl in_X9_advance_X9 tyX9 tyX9_ok nmX9 10 (by decide) (List.mem_of_getElem? (i := 4) rfl) rfl rfl rfl (Nat.le_of_ble_eq_true rfl) (zz_p9_10 ha0) zz_cell_sj dX9_advance_88 (fun M_17 => ?_)
  refine zz_aload_n C dX9_advance_91 rfl (lv_at hl 0 rfl) ?_
  refine zz_aload_n C dX9_advance_92 rfl (lv_at hl 0 rfl) ?_
  refine zz_get C (zz_lt ha0 (by decide)) (zz_c9 ha0) rfl in_X9_advance_X9 7 (by decide) (List.mem_of_getElem? (i := 3) rfl) rfl dX9_advance_93 ?_
  refine zz_iconst (v := 2) C dX9_advance_96 (by decide) ?_
  refine zz_icmp_ne (tgt := 104) C dX9_advance_97 (by decide) (fun c_18 => ?_) (fun c_18 => ?_)
  · refine zz_iconst (v := 0) C dX9_advance_100 (by decide) ?_
    refine zz_goto (tgt := 105) C dX9_advance_101 (by decide) ?_
    exact wb_X9_advance_105 C hr  a0 (0 : Int32) a0 ha0 ha0 M_17 ls (lv_sub hl [0] rfl)
  · refine zz_iload_n C dX9_advance_104 rfl (lv_at hl 1 rfl) ?_
    exact wb_X9_advance_105 C hr  a0 x1 a0 ha0 ha0 M_17 ls (lv_sub hl [0] rfl)
def b_X9_advance_8 : Nat → Nat → zz_M → Option (Unit × zz_M)
  | 0 => fun _ _ => none
  | n + 1 => fun a0 M => zz_bd (f_X9_byteAt a0 (zz_i M a0 8) M) (fun r_2 M_3 => (if r_2 = (32 : Int32) then zz_w (zz_si M_3 a0 8 ((zz_i M_3 a0 8) + (1 : Int32))) (fun M_15 => (b_X9_advance_8 n) a0 M_15) else zz_w (zz_si M_3 a0 9 (zz_i M_3 a0 8)) (fun M_5 => zz_bd (f_X9_byteAt a0 (zz_i M_5 a0 8) M_5) (fun r_6 M_7 => (if 0 ≤ r_6 then zz_bd (f_X9_isLetter r_6 M_7) (fun r_9 M_10 => (if r_9 = 0 then zz_bd (f_X9_isDigit r_6 M_10) (fun r_12 M_13 => (if r_12 = 0 then b_X9_advance_83  a0 r_6 (3 : Int32) a0 M_13 else b_X9_advance_83  a0 r_6 (2 : Int32) a0 M_13)) else b_X9_advance_83  a0 r_6 (1 : Int32) a0 M_10)) else b_X9_advance_83  a0 r_6 (0 : Int32) a0 M_7)))))
set_option maxRecDepth 100000 in
set_option maxHeartbeats 4000000 in
theorem wb_X9_advance_8 {p : Program} {l : Launch} {e : Env} {s : State} {m : MethodId} {args : Array Value} {below : List Frame} {meth : Method} {c : Code} {E : zz_E} (C : zz_C E RX9 cX9_advance 2 wsX9_advance p s m args meth c) (hr : meth.sig.returnType = none) : ∀ (n : Nat) (a0 : Nat) (ha0 : zz_sh a0 = 9) (M : zz_M) (ls : Array Slot), lv_has ls 2 [(0, .ref (E.1 + a0))] → zz_Z E p l e (zz_rm 3) s m args below meth c (zz_Q (zz_pv E) E below args s) (b_X9_advance_8 n a0 M) M (F0 m 8 ls []) := by
  intro n
  induction n with
  | zero => intro a0 ha0 M ls hl; exact zz_none
  | succ n ih =>
    intro a0 ha0 M ls hl
    rw [b_X9_advance_8]
    refine zz_aload_n C dX9_advance_8 rfl (lv_at hl 0 rfl) ?_
    refine zz_aload_n C dX9_advance_9 rfl (lv_at hl 0 rfl) ?_
    refine zz_get C (zz_lt ha0 (by decide)) (zz_c9 ha0) rfl in_X9_advance_X9 8 (by decide) (List.mem_of_getElem? (i := 2) rfl) rfl dX9_advance_10 ?_
    refine zz_callVi (As := [.int (zz_i M a0 8)]) (rest := []) C (m_X9_byteAt l E a0 (zz_i M a0 8) ha0 M) (cwV 1 C.1.2.2.2.2 gX9_advance_X9_byteAt rfl rfl rfl hdV_X9_byteAt ⟨Nat.le_of_ble_eq_true rfl, Nat.le_of_ble_eq_true rfl⟩) (zz_lt ha0 (by decide)) (zz_c9 ha0) rfl rfl hl.1 rfl (Nat.le_of_ble_eq_true rfl) dX9_advance_13 (fun r_2 M_3 => ?_)
    refine zz_bipush (v := 32) C dX9_advance_16 (by decide) ?_
    refine zz_icmp_ne (tgt := 34) C dX9_advance_18 (by decide) (fun c_4 => ?_) (fun c_4 => ?_)
    · refine zz_aload_n C dX9_advance_21 rfl (lv_at hl 0 rfl) ?_
      refine zz_dup C dX9_advance_22 rfl ?_
      refine zz_get C (zz_lt ha0 (by decide)) (zz_c9 ha0) rfl in_X9_advance_X9 8 (by decide) (List.mem_of_getElem? (i := 2) rfl) rfl dX9_advance_23 ?_
      refine zz_iconst (v := 1) C dX9_advance_26 (by decide) ?_
      refine zz_iadd C dX9_advance_27 ?_
      refine zz_put (M1 := zz_si M_3 a0 8 ((zz_i M_3 a0 8) + (1 : Int32))) C (zz_lt ha0 (by decide)) (zz_c9 ha0) rfl in_X9_advance_X9 tyX9 tyX9_ok nmX9 8 (by decide) (List.mem_of_getElem? (i := 2) rfl) rfl rfl rfl (Nat.le_of_ble_eq_true rfl) (zz_p9_8 ha0) zz_cell_si dX9_advance_28 (fun M_15 => ?_)
      refine zz_goto (tgt := 8) C dX9_advance_31 (by decide) ?_
      exact ih a0 ha0 M_15 ls (lv_sub hl [0] rfl)
    · refine zz_aload_n C dX9_advance_34 rfl (lv_at hl 0 rfl) ?_
      refine zz_aload_n C dX9_advance_35 rfl (lv_at hl 0 rfl) ?_
      refine zz_get C (zz_lt ha0 (by decide)) (zz_c9 ha0) rfl in_X9_advance_X9 8 (by decide) (List.mem_of_getElem? (i := 2) rfl) rfl dX9_advance_36 ?_
      refine zz_put (M1 := zz_si M_3 a0 9 (zz_i M_3 a0 8)) C (zz_lt ha0 (by decide)) (zz_c9 ha0) rfl in_X9_advance_X9 tyX9 tyX9_ok nmX9 9 (by decide) (List.mem_of_getElem? (i := 1) rfl) rfl rfl rfl (Nat.le_of_ble_eq_true rfl) (zz_p9_9 ha0) zz_cell_si dX9_advance_39 (fun M_5 => ?_)
      refine zz_aload_n C dX9_advance_42 rfl (lv_at hl 0 rfl) ?_
      refine zz_aload_n C dX9_advance_43 rfl (lv_at hl 0 rfl) ?_
      refine zz_get C (zz_lt ha0 (by decide)) (zz_c9 ha0) rfl in_X9_advance_X9 8 (by decide) (List.mem_of_getElem? (i := 2) rfl) rfl dX9_advance_44 ?_
      refine zz_callVi (As := [.int (zz_i M_5 a0 8)]) (rest := []) C (m_X9_byteAt l E a0 (zz_i M_5 a0 8) ha0 M_5) (cwV 1 C.1.2.2.2.2 gX9_advance_X9_byteAt rfl rfl rfl hdV_X9_byteAt ⟨Nat.le_of_ble_eq_true rfl, Nat.le_of_ble_eq_true rfl⟩) (zz_lt ha0 (by decide)) (zz_c9 ha0) rfl rfl hl.1 rfl (Nat.le_of_ble_eq_true rfl) dX9_advance_47 (fun r_6 M_7 => ?_)
      refine zz_istored_n (lv' := [(1, .int r_6), (0, .ref (E.1 + a0))]) C dX9_advance_50 rfl hl (by decide) rfl (fun ls hl => ?_)
      refine zz_aload_n C dX9_advance_51 rfl (lv_at hl 1 rfl) ?_
      refine zz_iload_n C dX9_advance_52 rfl (lv_at hl 0 rfl) ?_
      refine zz_if_ge (tgt := 60) C dX9_advance_53 (by decide) (fun c_8 => ?_) (fun c_8 => ?_)
      · refine zz_iload_n C dX9_advance_60 rfl (lv_at hl 0 rfl) ?_
        refine zz_callSi (As := [.int r_6]) (rest := [.ref (E.1 + a0)]) C (m_X9_isLetter l E r_6  M_7) (va_cwS 1 C.1.2.2.2.2 gX9_advance_X9_isLetter rfl rfl rfl hdS_X9_isLetter ⟨Nat.le_of_ble_eq_true rfl, Nat.le_of_ble_eq_true rfl⟩) rfl hl.1 rfl (Nat.le_of_ble_eq_true rfl) dX9_advance_61 (fun r_9 M_10 => ?_)
        refine zz_if_eq (tgt := 71) C dX9_advance_64 (by decide) (fun c_11 => ?_) (fun c_11 => ?_)
        · refine zz_iload_n C dX9_advance_71 rfl (lv_at hl 0 rfl) ?_
          refine zz_callSi (As := [.int r_6]) (rest := [.ref (E.1 + a0)]) C (m_X9_isDigit l E r_6  M_10) (va_cwS 1 C.1.2.2.2.2 gX9_advance_X9_isDigit rfl rfl rfl hdS_X9_isDigit ⟨Nat.le_of_ble_eq_true rfl, Nat.le_of_ble_eq_true rfl⟩) rfl hl.1 rfl (Nat.le_of_ble_eq_true rfl) dX9_advance_72 (fun r_12 M_13 => ?_)
          refine zz_if_eq (tgt := 82) C dX9_advance_75 (by decide) (fun c_14 => ?_) (fun c_14 => ?_)
          · refine zz_iconst (v := 3) C dX9_advance_82 (by decide) ?_
            exact wb_X9_advance_83 C hr  a0 r_6 (3 : Int32) a0 ha0 ha0 M_13 ls (lv_sub hl [1, 0] rfl)
          · refine zz_iconst (v := 2) C dX9_advance_78 (by decide) ?_
            refine zz_goto (tgt := 83) C dX9_advance_79 (by decide) ?_
            exact wb_X9_advance_83 C hr  a0 r_6 (2 : Int32) a0 ha0 ha0 M_13 ls (lv_sub hl [1, 0] rfl)
        · refine zz_iconst (v := 1) C dX9_advance_67 (by decide) ?_
          refine zz_goto (tgt := 83) C dX9_advance_68 (by decide) ?_
          exact wb_X9_advance_83 C hr  a0 r_6 (1 : Int32) a0 ha0 ha0 M_10 ls (lv_sub hl [1, 0] rfl)
      · refine zz_iconst (v := 0) C dX9_advance_56 (by decide) ?_
        refine zz_goto (tgt := 83) C dX9_advance_57 (by decide) ?_
        exact wb_X9_advance_83 C hr  a0 r_6 (0 : Int32) a0 ha0 ha0 M_7 ls (lv_sub hl [1, 0] rfl)
def f_X9_advance (a0 : Nat) (M : zz_M) : Option (Unit × zz_M) := zz_w (zz_si M a0 8 (zz_i M a0 9)) (fun M_1 => b_X9_advance_8  zz_fuel a0 M_1)
set_option maxRecDepth 100000 in
set_option maxHeartbeats 4000000 in
theorem m_X9_advance (l : Launch) (E : zz_E) (a0 : Nat) (h0 : zz_sh a0 = 9) (M : zz_M) : zz_Met (zz_pv E) l yX9_advance wsX9_advance 3 E [.ref (E.1 + a0)] M (f_X9_advance a0 M) := by
  refine zz_met (cc := cX9_advance) (nL := 2) (ret := none) (by decide) rfl (Nat.le_of_ble_eq_true rfl) ?_
  intro p e s m below meth c C hr ls hl
  have C : zz_C E RX9 cX9_advance 2 wsX9_advance p s m [.ref (E.1 + a0)].toArray meth c := C
  have hl : lv_has ls 2 [(0, .ref (E.1 + a0))] := hl
  unfold f_X9_advance
  refine zz_aload_n C dX9_advance_0 rfl (lv_at hl 0 rfl) ?_
  refine zz_aload_n C dX9_advance_1 rfl (lv_at hl 0 rfl) ?_
  refine zz_get C (zz_lt h0 (by decide)) (zz_c9 h0) rfl in_X9_advance_X9 9 (by decide) (List.mem_of_getElem? (i := 1) rfl) rfl dX9_advance_2 ?_
  refine zz_put (M1 := zz_si M a0 8 (zz_i M a0 9)) C (zz_lt h0 (by decide)) (zz_c9 h0) rfl in_X9_advance_X9 tyX9 tyX9_ok nmX9 8 (by decide) (List.mem_of_getElem? (i := 2) rfl) rfl rfl rfl (Nat.le_of_ble_eq_true rfl) (zz_p9_8 h0) zz_cell_si dX9_advance_5 (fun M_1 => ?_)
  exact wb_X9_advance_8 C hr  zz_fuel a0 h0 M_1 ls (lv_sub hl [0] rfl)
-- X9_isWord ('X9', 'isWord', '(J)Z')
theorem in_X9_isWord_X9 : ∀ w ∈ u_ws RX9 TX9 20, w ∈ wsX9_isWord := fun _ h => List.mem_cons_of_mem _ (List.mem_append_right _ h)
def f_X9_isWord (a0 : Nat) (y1 : Int64) (M : zz_M) : Option (Int32 × zz_M) := (if (zz_i M a0 7) = (1 : Int32) then (if (lg_cmp (zz_j M a0 10) y1) = 0 then some ((1 : Int32), M) else some ((0 : Int32), M)) else some ((0 : Int32), M))
set_option maxRecDepth 100000 in
set_option maxHeartbeats 4000000 in
theorem m_X9_isWord (l : Launch) (E : zz_E) (a0 : Nat) (y1 : Int64) (h0 : zz_sh a0 = 9) (M : zz_M) : zz_Met (zz_pi E) l yX9_isWord wsX9_isWord 1 E [.ref (E.1 + a0), .long y1] M (f_X9_isWord a0 y1 M) := by
  refine zz_met (cc := cX9_isWord) (nL := 3) (ret := (some .boolean)) (by decide) rfl (Nat.le_of_ble_eq_true rfl) ?_
  intro p e s m below meth c C hr ls hl
  have C : zz_C E RX9 cX9_isWord 3 wsX9_isWord p s m [.ref (E.1 + a0), .long y1].toArray meth c := C
  have hl : lv_has ls 3 [(0, .ref (E.1 + a0)), (1, .long y1)] := hl
  unfold f_X9_isWord
  refine zz_aload_n C dX9_isWord_0 rfl (lv_at hl 0 rfl) ?_
  refine zz_get C (zz_lt h0 (by decide)) (zz_c9 h0) rfl in_X9_isWord_X9 7 (by decide) (List.mem_of_getElem? (i := 1) rfl) rfl dX9_isWord_1 ?_
  refine zz_iconst (v := 1) C dX9_isWord_4 (by decide) ?_
  refine zz_icmp_ne (tgt := 21) C dX9_isWord_5 (by decide) (fun c_1 => ?_) (fun c_1 => ?_)
  · refine zz_aload_n C dX9_isWord_8 rfl (lv_at hl 0 rfl) ?_
    refine zz_get C (zz_lt h0 (by decide)) (zz_c9 h0) rfl in_X9_isWord_X9 10 (by decide) (List.mem_of_getElem? (i := 2) rfl) rfl dX9_isWord_9 ?_
    refine zz_lload_n C dX9_isWord_12 rfl (lv_at hl 1 rfl) ?_
    refine zz_lcmp C dX9_isWord_13 ?_
    refine zz_if_ne (tgt := 21) C dX9_isWord_14 (by decide) (fun c_2 => ?_) (fun c_2 => ?_)
    · refine zz_iconst (v := 1) C dX9_isWord_17 (by decide) ?_
      refine zz_goto (tgt := 22) C dX9_isWord_18 (by decide) ?_
      exact zz_zretl C (v := (1 : Int32)) rfl hr dX9_isWord_22
    · refine zz_iconst (v := 0) C dX9_isWord_21 (by decide) ?_
      exact zz_zretl C (v := (0 : Int32)) rfl hr dX9_isWord_22
  · refine zz_iconst (v := 0) C dX9_isWord_21 (by decide) ?_
    exact zz_zretl C (v := (0 : Int32)) rfl hr dX9_isWord_22
-- X9_kindHere ('X9', 'kindHere', '()I')
theorem hdV_X9_isWord : yX9_isWord.cls = RX9 ∧ yX9_isWord.cls ≠ "java/lang/invoke/MethodHandle" ∧ yX9_isWord.cls ≠ "java/lang/invoke/VarHandle" ∧ (parseMethodDescriptor yX9_isWord.desc).map (fun d => d.parameters.length) = some 1 := by decide +kernel
def f_X9_kindHere (a0 : Nat) (M : zz_M) : Option (Int32 × zz_M) := zz_bd (f_X9_isWord a0 (43856969 : Int64) M) (fun r_1 M_2 => (if r_1 = 0 then zz_bd (f_X9_isWord a0 (388602 : Int64) M_2) (fun r_4 M_5 => (if r_4 = 0 then zz_bd (f_X9_isWord a0 (782262 : Int64) M_5) (fun r_7 M_8 => (if r_7 = 0 then zz_bd (f_X9_isWord a0 (370124 : Int64) M_8) (fun r_10 M_11 => (if r_10 = 0 then zz_bd (f_X9_isWord a0 (6223239030 : Int64) M_11) (fun r_13 M_14 => (if r_13 = 0 then zz_bd (f_X9_isWord a0 (296733218 : Int64) M_14) (fun r_16 M_17 => (if r_16 = 0 then some ((-1 : Int32), M_17) else some ((5 : Int32), M_17))) else some ((4 : Int32), M_14))) else some ((3 : Int32), M_11))) else some ((2 : Int32), M_8))) else some ((1 : Int32), M_5))) else some ((0 : Int32), M_2)))
set_option maxRecDepth 100000 in
set_option maxHeartbeats 4000000 in
theorem m_X9_kindHere (l : Launch) (E : zz_E) (a0 : Nat) (h0 : zz_sh a0 = 9) (M : zz_M) : zz_Met (zz_pi E) l yX9_kindHere wsX9_kindHere 2 E [.ref (E.1 + a0)] M (f_X9_kindHere a0 M) := by
  refine zz_met (cc := cX9_kindHere) (nL := 1) (ret := (some .int)) (by decide) rfl (Nat.le_of_ble_eq_true rfl) ?_
  intro p e s m below meth c C hr ls hl
  have C : zz_C E RX9 cX9_kindHere 1 wsX9_kindHere p s m [.ref (E.1 + a0)].toArray meth c := C
  have hl : lv_has ls 1 [(0, .ref (E.1 + a0))] := hl
  unfold f_X9_kindHere
  refine zz_aload_n C dX9_kindHere_0 rfl (lv_at hl 0 rfl) ?_
  refine zz_ldc2 (v := 43856969) C (List.mem_of_getElem? (i := 1) rfl) dX9_kindHere_1 ?_
  refine zz_callVi (As := [.long (43856969 : Int64)]) (rest := []) C (m_X9_isWord l E a0 (43856969 : Int64) h0 M) (cwV 1 C.1.2.2.2.2 gX9_kindHere_X9_isWord rfl rfl rfl hdV_X9_isWord ⟨Nat.le_of_ble_eq_true rfl, Nat.le_of_ble_eq_true rfl⟩) (zz_lt h0 (by decide)) (zz_c9 h0) rfl rfl hl.1 rfl (Nat.le_of_ble_eq_true rfl) dX9_kindHere_4 (fun r_1 M_2 => ?_)
  refine zz_if_eq (tgt := 14) C dX9_kindHere_7 (by decide) (fun c_3 => ?_) (fun c_3 => ?_)
  · refine zz_aload_n C dX9_kindHere_14 rfl (lv_at hl 0 rfl) ?_
    refine zz_ldc2 (v := 388602) C (List.mem_of_getElem? (i := 2) rfl) dX9_kindHere_15 ?_
    refine zz_callVi (As := [.long (388602 : Int64)]) (rest := []) C (m_X9_isWord l E a0 (388602 : Int64) h0 M_2) (cwV 1 C.1.2.2.2.2 gX9_kindHere_X9_isWord rfl rfl rfl hdV_X9_isWord ⟨Nat.le_of_ble_eq_true rfl, Nat.le_of_ble_eq_true rfl⟩) (zz_lt h0 (by decide)) (zz_c9 h0) rfl rfl hl.1 rfl (Nat.le_of_ble_eq_true rfl) dX9_kindHere_18 (fun r_4 M_5 => ?_)
    refine zz_if_eq (tgt := 28) C dX9_kindHere_21 (by decide) (fun c_6 => ?_) (fun c_6 => ?_)
    · refine zz_aload_n C dX9_kindHere_28 rfl (lv_at hl 0 rfl) ?_
      refine zz_ldc2 (v := 782262) C (List.mem_of_getElem? (i := 3) rfl) dX9_kindHere_29 ?_
      refine zz_callVi (As := [.long (782262 : Int64)]) (rest := []) C (m_X9_isWord l E a0 (782262 : Int64) h0 M_5) (cwV 1 C.1.2.2.2.2 gX9_kindHere_X9_isWord rfl rfl rfl hdV_X9_isWord ⟨Nat.le_of_ble_eq_true rfl, Nat.le_of_ble_eq_true rfl⟩) (zz_lt h0 (by decide)) (zz_c9 h0) rfl rfl hl.1 rfl (Nat.le_of_ble_eq_true rfl) dX9_kindHere_32 (fun r_7 M_8 => ?_)
      refine zz_if_eq (tgt := 42) C dX9_kindHere_35 (by decide) (fun c_9 => ?_) (fun c_9 => ?_)
      · refine zz_aload_n C dX9_kindHere_42 rfl (lv_at hl 0 rfl) ?_
        refine zz_ldc2 (v := 370124) C (List.mem_of_getElem? (i := 4) rfl) dX9_kindHere_43 ?_
        refine zz_callVi (As := [.long (370124 : Int64)]) (rest := []) C (m_X9_isWord l E a0 (370124 : Int64) h0 M_8) (cwV 1 C.1.2.2.2.2 gX9_kindHere_X9_isWord rfl rfl rfl hdV_X9_isWord ⟨Nat.le_of_ble_eq_true rfl, Nat.le_of_ble_eq_true rfl⟩) (zz_lt h0 (by decide)) (zz_c9 h0) rfl rfl hl.1 rfl (Nat.le_of_ble_eq_true rfl) dX9_kindHere_46 (fun r_10 M_11 => ?_)
        refine zz_if_eq (tgt := 56) C dX9_kindHere_49 (by decide) (fun c_12 => ?_) (fun c_12 => ?_)
        · refine zz_aload_n C dX9_kindHere_56 rfl (lv_at hl 0 rfl) ?_
          refine zz_ldc2 (v := 6223239030) C (List.mem_of_getElem? (i := 5) rfl) dX9_kindHere_57 ?_
          refine zz_callVi (As := [.long (6223239030 : Int64)]) (rest := []) C (m_X9_isWord l E a0 (6223239030 : Int64) h0 M_11) (cwV 1 C.1.2.2.2.2 gX9_kindHere_X9_isWord rfl rfl rfl hdV_X9_isWord ⟨Nat.le_of_ble_eq_true rfl, Nat.le_of_ble_eq_true rfl⟩) (zz_lt h0 (by decide)) (zz_c9 h0) rfl rfl hl.1 rfl (Nat.le_of_ble_eq_true rfl) dX9_kindHere_60 (fun r_13 M_14 => ?_)
          refine zz_if_eq (tgt := 70) C dX9_kindHere_63 (by decide) (fun c_15 => ?_) (fun c_15 => ?_)
          · refine zz_aload_n C dX9_kindHere_70 rfl (lv_at hl 0 rfl) ?_
            refine zz_ldc2 (v := 296733218) C (List.mem_of_getElem? (i := 6) rfl) dX9_kindHere_71 ?_
            refine zz_callVi (As := [.long (296733218 : Int64)]) (rest := []) C (m_X9_isWord l E a0 (296733218 : Int64) h0 M_14) (cwV 1 C.1.2.2.2.2 gX9_kindHere_X9_isWord rfl rfl rfl hdV_X9_isWord ⟨Nat.le_of_ble_eq_true rfl, Nat.le_of_ble_eq_true rfl⟩) (zz_lt h0 (by decide)) (zz_c9 h0) rfl rfl hl.1 rfl (Nat.le_of_ble_eq_true rfl) dX9_kindHere_74 (fun r_16 M_17 => ?_)
            refine zz_if_eq (tgt := 84) C dX9_kindHere_77 (by decide) (fun c_18 => ?_) (fun c_18 => ?_)
            · refine zz_iconst (v := -1) C dX9_kindHere_84 (by decide) ?_
              exact zz_iret C hr dX9_kindHere_85
            · refine zz_iconst (v := 5) C dX9_kindHere_80 (by decide) ?_
              refine zz_goto (tgt := 85) C dX9_kindHere_81 (by decide) ?_
              exact zz_iret C hr dX9_kindHere_85
          · refine zz_iconst (v := 4) C dX9_kindHere_66 (by decide) ?_
            refine zz_goto (tgt := 85) C dX9_kindHere_67 (by decide) ?_
            exact zz_iret C hr dX9_kindHere_85
        · refine zz_iconst (v := 3) C dX9_kindHere_52 (by decide) ?_
          refine zz_goto (tgt := 85) C dX9_kindHere_53 (by decide) ?_
          exact zz_iret C hr dX9_kindHere_85
      · refine zz_iconst (v := 2) C dX9_kindHere_38 (by decide) ?_
        refine zz_goto (tgt := 85) C dX9_kindHere_39 (by decide) ?_
        exact zz_iret C hr dX9_kindHere_85
    · refine zz_iconst (v := 1) C dX9_kindHere_24 (by decide) ?_
      refine zz_goto (tgt := 85) C dX9_kindHere_25 (by decide) ?_
      exact zz_iret C hr dX9_kindHere_85
  · refine zz_iconst (v := 0) C dX9_kindHere_10 (by decide) ?_
    refine zz_goto (tgt := 85) C dX9_kindHere_11 (by decide) ?_
    exact zz_iret C hr dX9_kindHere_85
-- X9_wantNumber ('X9', 'wantNumber', '(II)I')
theorem in_X9_wantNumber_X9 : ∀ w ∈ u_ws RX9 TX9 20, w ∈ wsX9_wantNumber := fun _ h => List.mem_cons_of_mem _ (List.mem_append_right _ h)
theorem hdV_X9_advance : yX9_advance.cls = RX9 ∧ yX9_advance.cls ≠ "java/lang/invoke/MethodHandle" ∧ yX9_advance.cls ≠ "java/lang/invoke/VarHandle" ∧ (parseMethodDescriptor yX9_advance.desc).map (fun d => d.parameters.length) = some 0 := by decide +kernel
def b_X9_wantNumber_35 (a0 : Nat) (x3 : Int32) (st0 : Int32) (rt1 : Nat) (M : zz_M) : Option (Int32 × zz_M) := (if zz_bit st0 = true then zz_w (zz_si M rt1 12 st0) (fun M_7 => (if (zz_i M_7 a0 12) = 0 then some (x3, M_7) else zz_bd (f_X9_advance a0 M_7) (fun _ M_9 => some (x3, M_9)))) else none)
set_option maxRecDepth 100000 in
set_option maxHeartbeats 4000000 in
theorem wb_X9_wantNumber_35 {p : Program} {l : Launch} {e : Env} {s : State} {m : MethodId} {args : Array Value} {below : List Frame} {meth : Method} {c : Code} {E : zz_E} (C : zz_C E RX9 cX9_wantNumber 4 wsX9_wantNumber p s m args meth c) (hr : meth.sig.returnType = (some .int)) : ∀ (a0 : Nat) (x3 : Int32) (st0 : Int32) (rt1 : Nat) (ha0 : zz_sh a0 = 9) (hrt1 : zz_sh rt1 = 9) (M : zz_M) (ls : Array Slot), lv_has ls 4 [(0, .ref (E.1 + a0)), (3, .int x3)] → zz_Z E p l e (zz_rm 4) s m args below meth c (zz_Q (zz_pi E) E below args s) (b_X9_wantNumber_35 a0 x3 st0 rt1 M) M (F0 m 35 ls [.int st0, .ref (E.1 + rt1)]) := by
  intro a0 x3 st0 rt1 ha0 hrt1 M ls hl
  unfold b_X9_wantNumber_35
  refine zz_guard (fun b_10 => ?_)
  refine zz_put (M1 := zz_si M rt1 12 st0) C (zz_lt hrt1 (by decide)) (zz_c9 hrt1) rfl in_X9_wantNumber_X9 tyX9 tyX9_ok nmX9 12 (by decide) (List.mem_of_getElem? (i := 2) rfl) rfl (zz_nb b_10) (zz_fb b_10) (Nat.le_of_ble_eq_true rfl) (zz_p9_12 hrt1) zz_cell_si dX9_wantNumber_35 (fun M_7 => ?_)
  refine zz_aload_n C dX9_wantNumber_38 rfl (lv_at hl 0 rfl) ?_
  refine zz_get C (zz_lt ha0 (by decide)) (zz_c9 ha0) rfl in_X9_wantNumber_X9 12 (by decide) (List.mem_of_getElem? (i := 2) rfl) rfl dX9_wantNumber_39 ?_
  refine zz_if_eq (tgt := 49) C dX9_wantNumber_42 (by decide) (fun c_8 => ?_) (fun c_8 => ?_)
  · refine zz_iload_n C dX9_wantNumber_49 rfl (lv_at hl 1 rfl) ?_
    exact zz_iret C hr dX9_wantNumber_50
  · refine zz_aload_n C dX9_wantNumber_45 rfl (lv_at hl 0 rfl) ?_
    refine zz_callVv (As := []) (rest := []) C (m_X9_advance l E a0 ha0 M_7) (cwV 0 C.1.2.2.2.2 gX9_wantNumber_X9_advance rfl rfl rfl hdV_X9_advance ⟨Nat.le_of_ble_eq_true rfl, Nat.le_of_ble_eq_true rfl⟩) (zz_lt ha0 (by decide)) (zz_c9 ha0) rfl rfl hl.1 rfl (Nat.le_of_ble_eq_true rfl) dX9_wantNumber_46 (fun _ M_9 => ?_)
    refine zz_iload_n C dX9_wantNumber_49 rfl (lv_at hl 1 rfl) ?_
    exact zz_iret C hr dX9_wantNumber_50
def b_X9_wantNumber_34 (a0 : Nat) (x3 : Int32) (rt0 : Nat) (M : zz_M) : Option (Int32 × zz_M) := b_X9_wantNumber_35  a0 x3 (0 : Int32) rt0 M
set_option maxRecDepth 100000 in
set_option maxHeartbeats 4000000 in
theorem wb_X9_wantNumber_34 {p : Program} {l : Launch} {e : Env} {s : State} {m : MethodId} {args : Array Value} {below : List Frame} {meth : Method} {c : Code} {E : zz_E} (C : zz_C E RX9 cX9_wantNumber 4 wsX9_wantNumber p s m args meth c) (hr : meth.sig.returnType = (some .int)) : ∀ (a0 : Nat) (x3 : Int32) (rt0 : Nat) (ha0 : zz_sh a0 = 9) (hrt0 : zz_sh rt0 = 9) (M : zz_M) (ls : Array Slot), lv_has ls 4 [(0, .ref (E.1 + a0)), (3, .int x3)] → zz_Z E p l e (zz_rm 4) s m args below meth c (zz_Q (zz_pi E) E below args s) (b_X9_wantNumber_34 a0 x3 rt0 M) M (F0 m 34 ls [.ref (E.1 + rt0)]) := by
  intro a0 x3 rt0 ha0 hrt0 M ls hl
  unfold b_X9_wantNumber_34
  refine zz_iconst (v := 0) C dX9_wantNumber_34 (by decide) ?_
  exact wb_X9_wantNumber_35 C hr  a0 x3 (0 : Int32) rt0 ha0 hrt0 M ls (lv_sub hl [0, 1] rfl)
def f_X9_wantNumber (a0 : Nat) (x1 : Int32) (x2 : Int32) (M : zz_M) : Option (Int32 × zz_M) := zz_w (zz_i M a0 11) (fun x3_1 => (if (zz_i M a0 12) = 0 then b_X9_wantNumber_34  a0 x3_1 a0 M else (if (zz_i M a0 7) = (2 : Int32) then zz_bd (f_X9_in x3_1 x1 x2 M) (fun r_4 M_5 => (if r_4 = 0 then b_X9_wantNumber_34  a0 x3_1 a0 M_5 else b_X9_wantNumber_35  a0 x3_1 (1 : Int32) a0 M_5)) else b_X9_wantNumber_34  a0 x3_1 a0 M)))
set_option maxRecDepth 100000 in
set_option maxHeartbeats 4000000 in
theorem m_X9_wantNumber (l : Launch) (E : zz_E) (a0 : Nat) (x1 : Int32) (x2 : Int32) (h0 : zz_sh a0 = 9) (M : zz_M) : zz_Met (zz_pi E) l yX9_wantNumber wsX9_wantNumber 4 E [.ref (E.1 + a0), .int x1, .int x2] M (f_X9_wantNumber a0 x1 x2 M) := by
  refine zz_met (cc := cX9_wantNumber) (nL := 4) (ret := (some .int)) (by decide) rfl (Nat.le_of_ble_eq_true rfl) ?_
  intro p e s m below meth c C hr ls hl
  have C : zz_C E RX9 cX9_wantNumber 4 wsX9_wantNumber p s m [.ref (E.1 + a0), .int x1, .int x2].toArray meth c := C
  have hl : lv_has ls 4 [(0, .ref (E.1 + a0)), (1, .int x1), (2, .int x2)] := hl
  unfold f_X9_wantNumber
  refine zz_aload_n C dX9_wantNumber_0 rfl (lv_at hl 0 rfl) ?_
  refine zz_get C (zz_lt h0 (by decide)) (zz_c9 h0) rfl in_X9_wantNumber_X9 11 (by decide) (List.mem_of_getElem? (i := 1) rfl) rfl dX9_wantNumber_1 ?_
  refine zz_istore_n C (fun x3_1 => [(3, .int x3_1), (0, .ref (E.1 + a0)), (1, .int x1), (2, .int x2)]) dX9_wantNumber_4 rfl hl (by decide) (fun _ => rfl) (fun x3_1 ls hl => ?_)
  refine zz_aload_n C dX9_wantNumber_5 rfl (lv_at hl 1 rfl) ?_
  refine zz_aload_n C dX9_wantNumber_6 rfl (lv_at hl 1 rfl) ?_
  refine zz_get C (zz_lt h0 (by decide)) (zz_c9 h0) rfl in_X9_wantNumber_X9 12 (by decide) (List.mem_of_getElem? (i := 2) rfl) rfl dX9_wantNumber_7 ?_
  refine zz_if_eq (tgt := 34) C dX9_wantNumber_10 (by decide) (fun c_2 => ?_) (fun c_2 => ?_)
  · exact wb_X9_wantNumber_34 C hr  a0 x3_1 a0 h0 h0 M ls (lv_sub hl [1, 0] rfl)
  · refine zz_aload_n C dX9_wantNumber_13 rfl (lv_at hl 1 rfl) ?_
    refine zz_get C (zz_lt h0 (by decide)) (zz_c9 h0) rfl in_X9_wantNumber_X9 7 (by decide) (List.mem_of_getElem? (i := 3) rfl) rfl dX9_wantNumber_14 ?_
    refine zz_iconst (v := 2) C dX9_wantNumber_17 (by decide) ?_
    refine zz_icmp_ne (tgt := 34) C dX9_wantNumber_18 (by decide) (fun c_3 => ?_) (fun c_3 => ?_)
    · refine zz_iload_n C dX9_wantNumber_21 rfl (lv_at hl 0 rfl) ?_
      refine zz_iload_n C dX9_wantNumber_22 rfl (lv_at hl 2 rfl) ?_
      refine zz_iload_n C dX9_wantNumber_23 rfl (lv_at hl 3 rfl) ?_
      refine zz_callSi (As := [.int x3_1, .int x1, .int x2]) (rest := [.ref (E.1 + a0)]) C (m_X9_in l E x3_1 x1 x2  M) (va_cwS 3 C.1.2.2.2.2 gX9_wantNumber_X9_in rfl rfl rfl hdS_X9_in ⟨Nat.le_of_ble_eq_true rfl, Nat.le_of_ble_eq_true rfl⟩) rfl hl.1 rfl (Nat.le_of_ble_eq_true rfl) dX9_wantNumber_24 (fun r_4 M_5 => ?_)
      refine zz_if_eq (tgt := 34) C dX9_wantNumber_27 (by decide) (fun c_6 => ?_) (fun c_6 => ?_)
      · exact wb_X9_wantNumber_34 C hr  a0 x3_1 a0 h0 h0 M_5 ls (lv_sub hl [1, 0] rfl)
      · refine zz_iconst (v := 1) C dX9_wantNumber_30 (by decide) ?_
        refine zz_goto (tgt := 35) C dX9_wantNumber_31 (by decide) ?_
        exact wb_X9_wantNumber_35 C hr  a0 x3_1 (1 : Int32) a0 h0 h0 M_5 ls (lv_sub hl [1, 0] rfl)
    · exact wb_X9_wantNumber_34 C hr  a0 x3_1 a0 h0 h0 M ls (lv_sub hl [1, 0] rfl)
-- X9_mayWant ('X9', 'mayWant', '(JIII)I')
theorem in_X9_mayWant_X9 : ∀ w ∈ u_ws RX9 TX9 20, w ∈ wsX9_mayWant := fun _ h => List.mem_cons_of_mem _ (List.mem_append_right _ h)
theorem hdV_X9_wantNumber : yX9_wantNumber.cls = RX9 ∧ yX9_wantNumber.cls ≠ "java/lang/invoke/MethodHandle" ∧ yX9_wantNumber.cls ≠ "java/lang/invoke/VarHandle" ∧ (parseMethodDescriptor yX9_wantNumber.desc).map (fun d => d.parameters.length) = some 2 := by decide +kernel
def f_X9_mayWant (a0 : Nat) (y1 : Int64) (x3 : Int32) (x4 : Int32) (x5 : Int32) (M : zz_M) : Option (Int32 × zz_M) := (if (zz_i M a0 12) = 0 then some (x5, M) else zz_bd (f_X9_isWord a0 y1 M) (fun r_2 M_3 => (if r_2 = 0 then some (x5, M_3) else zz_bd (f_X9_advance a0 M_3) (fun _ M_5 => zz_bd (f_X9_wantNumber a0 x3 x4 M_5) (fun r_6 M_7 => some (r_6, M_7))))))
set_option maxRecDepth 100000 in
set_option maxHeartbeats 4000000 in
theorem m_X9_mayWant (l : Launch) (E : zz_E) (a0 : Nat) (y1 : Int64) (x3 : Int32) (x4 : Int32) (x5 : Int32) (h0 : zz_sh a0 = 9) (M : zz_M) : zz_Met (zz_pi E) l yX9_mayWant wsX9_mayWant 5 E [.ref (E.1 + a0), .long y1, .int x3, .int x4, .int x5] M (f_X9_mayWant a0 y1 x3 x4 x5 M) := by
  refine zz_met (cc := cX9_mayWant) (nL := 6) (ret := (some .int)) (by decide) rfl (Nat.le_of_ble_eq_true rfl) ?_
  intro p e s m below meth c C hr ls hl
  have C : zz_C E RX9 cX9_mayWant 6 wsX9_mayWant p s m [.ref (E.1 + a0), .long y1, .int x3, .int x4, .int x5].toArray meth c := C
  have hl : lv_has ls 6 [(0, .ref (E.1 + a0)), (1, .long y1), (3, .int x3), (4, .int x4), (5, .int x5)] := hl
  unfold f_X9_mayWant
  refine zz_aload_n C dX9_mayWant_0 rfl (lv_at hl 0 rfl) ?_
  refine zz_get C (zz_lt h0 (by decide)) (zz_c9 h0) rfl in_X9_mayWant_X9 12 (by decide) (List.mem_of_getElem? (i := 1) rfl) rfl dX9_mayWant_1 ?_
  refine zz_if_eq (tgt := 15) C dX9_mayWant_4 (by decide) (fun c_1 => ?_) (fun c_1 => ?_)
  · refine zz_iload C dX9_mayWant_15 (lv_at hl 4 rfl) ?_
    exact zz_iret C hr dX9_mayWant_17
  · refine zz_aload_n C dX9_mayWant_7 rfl (lv_at hl 0 rfl) ?_
    refine zz_lload_n C dX9_mayWant_8 rfl (lv_at hl 1 rfl) ?_
    refine zz_callVi (As := [.long y1]) (rest := []) C (m_X9_isWord l E a0 y1 h0 M) (cwV 1 C.1.2.2.2.2 gX9_mayWant_X9_isWord rfl rfl rfl hdV_X9_isWord ⟨Nat.le_of_ble_eq_true rfl, Nat.le_of_ble_eq_true rfl⟩) (zz_lt h0 (by decide)) (zz_c9 h0) rfl rfl hl.1 rfl (Nat.le_of_ble_eq_true rfl) dX9_mayWant_9 (fun r_2 M_3 => ?_)
    refine zz_if_ne (tgt := 18) C dX9_mayWant_12 (by decide) (fun c_4 => ?_) (fun c_4 => ?_)
    · refine zz_iload C dX9_mayWant_15 (lv_at hl 4 rfl) ?_
      exact zz_iret C hr dX9_mayWant_17
    · refine zz_aload_n C dX9_mayWant_18 rfl (lv_at hl 0 rfl) ?_
      refine zz_callVv (As := []) (rest := []) C (m_X9_advance l E a0 h0 M_3) (cwV 0 C.1.2.2.2.2 gX9_mayWant_X9_advance rfl rfl rfl hdV_X9_advance ⟨Nat.le_of_ble_eq_true rfl, Nat.le_of_ble_eq_true rfl⟩) (zz_lt h0 (by decide)) (zz_c9 h0) rfl rfl hl.1 rfl (Nat.le_of_ble_eq_true rfl) dX9_mayWant_19 (fun _ M_5 => ?_)
      refine zz_aload_n C dX9_mayWant_22 rfl (lv_at hl 0 rfl) ?_
      refine zz_iload_n C dX9_mayWant_23 rfl (lv_at hl 2 rfl) ?_
      refine zz_iload C dX9_mayWant_24 (lv_at hl 3 rfl) ?_
      refine zz_callVi (As := [.int x3, .int x4]) (rest := []) C (m_X9_wantNumber l E a0 x3 x4 h0 M_5) (cwV 2 C.1.2.2.2.2 gX9_mayWant_X9_wantNumber rfl rfl rfl hdV_X9_wantNumber ⟨Nat.le_of_ble_eq_true rfl, Nat.le_of_ble_eq_true rfl⟩) (zz_lt h0 (by decide)) (zz_c9 h0) rfl rfl hl.1 rfl (Nat.le_of_ble_eq_true rfl) dX9_mayWant_26 (fun r_6 M_7 => ?_)
      exact zz_iret C hr dX9_mayWant_29
-- X9_wantWord ('X9', 'wantWord', '(J)V')
theorem in_X9_wantWord_X9 : ∀ w ∈ u_ws RX9 TX9 20, w ∈ wsX9_wantWord := fun _ h => List.mem_cons_of_mem _ (List.mem_append_right _ h)
def b_X9_wantWord_21 (a0 : Nat) (st0 : Int32) (rt1 : Nat) (M : zz_M) : Option (Unit × zz_M) := (if zz_bit st0 = true then zz_w (zz_si M rt1 12 st0) (fun M_5 => (if (zz_i M_5 a0 12) = 0 then some ((), M_5) else zz_bd (f_X9_advance a0 M_5) (fun _ M_7 => some ((), M_7)))) else none)
set_option maxRecDepth 100000 in
set_option maxHeartbeats 4000000 in
theorem wb_X9_wantWord_21 {p : Program} {l : Launch} {e : Env} {s : State} {m : MethodId} {args : Array Value} {below : List Frame} {meth : Method} {c : Code} {E : zz_E} (C : zz_C E RX9 cX9_wantWord 3 wsX9_wantWord p s m args meth c) (hr : meth.sig.returnType = none) : ∀ (a0 : Nat) (st0 : Int32) (rt1 : Nat) (ha0 : zz_sh a0 = 9) (hrt1 : zz_sh rt1 = 9) (M : zz_M) (ls : Array Slot), lv_has ls 3 [(0, .ref (E.1 + a0))] → zz_Z E p l e (zz_rm 4) s m args below meth c (zz_Q (zz_pv E) E below args s) (b_X9_wantWord_21 a0 st0 rt1 M) M (F0 m 21 ls [.int st0, .ref (E.1 + rt1)]) := by
  intro a0 st0 rt1 ha0 hrt1 M ls hl
  unfold b_X9_wantWord_21
  refine zz_guard (fun b_8 => ?_)
  refine zz_put (M1 := zz_si M rt1 12 st0) C (zz_lt hrt1 (by decide)) (zz_c9 hrt1) rfl in_X9_wantWord_X9 tyX9 tyX9_ok nmX9 12 (by decide) (List.mem_of_getElem? (i := 1) rfl) rfl (zz_nb b_8) (zz_fb b_8) (Nat.le_of_ble_eq_true rfl) (zz_p9_12 hrt1) zz_cell_si dX9_wantWord_21 (fun M_5 => ?_)
  refine zz_aload_n C dX9_wantWord_24 rfl (lv_at hl 0 rfl) ?_
  refine zz_get C (zz_lt ha0 (by decide)) (zz_c9 ha0) rfl in_X9_wantWord_X9 12 (by decide) (List.mem_of_getElem? (i := 1) rfl) rfl dX9_wantWord_25 ?_
  refine zz_if_eq (tgt := 35) C dX9_wantWord_28 (by decide) (fun c_6 => ?_) (fun c_6 => ?_)
  · exact zz_vret C hr dX9_wantWord_35
  · refine zz_aload_n C dX9_wantWord_31 rfl (lv_at hl 0 rfl) ?_
    refine zz_callVv (As := []) (rest := []) C (m_X9_advance l E a0 ha0 M_5) (cwV 0 C.1.2.2.2.2 gX9_wantWord_X9_advance rfl rfl rfl hdV_X9_advance ⟨Nat.le_of_ble_eq_true rfl, Nat.le_of_ble_eq_true rfl⟩) (zz_lt ha0 (by decide)) (zz_c9 ha0) rfl rfl hl.1 rfl (Nat.le_of_ble_eq_true rfl) dX9_wantWord_32 (fun _ M_7 => ?_)
    exact zz_vret C hr dX9_wantWord_35
def b_X9_wantWord_20 (a0 : Nat) (rt0 : Nat) (M : zz_M) : Option (Unit × zz_M) := b_X9_wantWord_21  a0 (0 : Int32) rt0 M
set_option maxRecDepth 100000 in
set_option maxHeartbeats 4000000 in
theorem wb_X9_wantWord_20 {p : Program} {l : Launch} {e : Env} {s : State} {m : MethodId} {args : Array Value} {below : List Frame} {meth : Method} {c : Code} {E : zz_E} (C : zz_C E RX9 cX9_wantWord 3 wsX9_wantWord p s m args meth c) (hr : meth.sig.returnType = none) : ∀ (a0 : Nat) (rt0 : Nat) (ha0 : zz_sh a0 = 9) (hrt0 : zz_sh rt0 = 9) (M : zz_M) (ls : Array Slot), lv_has ls 3 [(0, .ref (E.1 + a0))] → zz_Z E p l e (zz_rm 4) s m args below meth c (zz_Q (zz_pv E) E below args s) (b_X9_wantWord_20 a0 rt0 M) M (F0 m 20 ls [.ref (E.1 + rt0)]) := by
  intro a0 rt0 ha0 hrt0 M ls hl
  unfold b_X9_wantWord_20
  refine zz_iconst (v := 0) C dX9_wantWord_20 (by decide) ?_
  exact wb_X9_wantWord_21 C hr  a0 (0 : Int32) rt0 ha0 hrt0 M ls (lv_sub hl [0] rfl)
def f_X9_wantWord (a0 : Nat) (y1 : Int64) (M : zz_M) : Option (Unit × zz_M) := (if (zz_i M a0 12) = 0 then b_X9_wantWord_20  a0 a0 M else zz_bd (f_X9_isWord a0 y1 M) (fun r_2 M_3 => (if r_2 = 0 then b_X9_wantWord_20  a0 a0 M_3 else b_X9_wantWord_21  a0 (1 : Int32) a0 M_3)))
set_option maxRecDepth 100000 in
set_option maxHeartbeats 4000000 in
theorem m_X9_wantWord (l : Launch) (E : zz_E) (a0 : Nat) (y1 : Int64) (h0 : zz_sh a0 = 9) (M : zz_M) : zz_Met (zz_pv E) l yX9_wantWord wsX9_wantWord 4 E [.ref (E.1 + a0), .long y1] M (f_X9_wantWord a0 y1 M) := by
  refine zz_met (cc := cX9_wantWord) (nL := 3) (ret := none) (by decide) rfl (Nat.le_of_ble_eq_true rfl) ?_
  intro p e s m below meth c C hr ls hl
  have C : zz_C E RX9 cX9_wantWord 3 wsX9_wantWord p s m [.ref (E.1 + a0), .long y1].toArray meth c := C
  have hl : lv_has ls 3 [(0, .ref (E.1 + a0)), (1, .long y1)] := hl
  unfold f_X9_wantWord
  refine zz_aload_n C dX9_wantWord_0 rfl (lv_at hl 0 rfl) ?_
  refine zz_aload_n C dX9_wantWord_1 rfl (lv_at hl 0 rfl) ?_
  refine zz_get C (zz_lt h0 (by decide)) (zz_c9 h0) rfl in_X9_wantWord_X9 12 (by decide) (List.mem_of_getElem? (i := 1) rfl) rfl dX9_wantWord_2 ?_
  refine zz_if_eq (tgt := 20) C dX9_wantWord_5 (by decide) (fun c_1 => ?_) (fun c_1 => ?_)
  · exact wb_X9_wantWord_20 C hr  a0 a0 h0 h0 M ls (lv_sub hl [0] rfl)
  · refine zz_aload_n C dX9_wantWord_8 rfl (lv_at hl 0 rfl) ?_
    refine zz_lload_n C dX9_wantWord_9 rfl (lv_at hl 1 rfl) ?_
    refine zz_callVi (As := [.long y1]) (rest := [.ref (E.1 + a0)]) C (m_X9_isWord l E a0 y1 h0 M) (cwV 1 C.1.2.2.2.2 gX9_wantWord_X9_isWord rfl rfl rfl hdV_X9_isWord ⟨Nat.le_of_ble_eq_true rfl, Nat.le_of_ble_eq_true rfl⟩) (zz_lt h0 (by decide)) (zz_c9 h0) rfl rfl hl.1 rfl (Nat.le_of_ble_eq_true rfl) dX9_wantWord_10 (fun r_2 M_3 => ?_)
    refine zz_if_eq (tgt := 20) C dX9_wantWord_13 (by decide) (fun c_4 => ?_) (fun c_4 => ?_)
    · exact wb_X9_wantWord_20 C hr  a0 a0 h0 h0 M_3 ls (lv_sub hl [0] rfl)
    · refine zz_iconst (v := 1) C dX9_wantWord_16 (by decide) ?_
      refine zz_goto (tgt := 21) C dX9_wantWord_17 (by decide) ?_
      exact wb_X9_wantWord_21 C hr  a0 (1 : Int32) a0 h0 h0 M_3 ls (lv_sub hl [0] rfl)
-- X9_mayBe ('X9', 'mayBe', '(JJI)I')
theorem in_X9_mayBe_X9 : ∀ w ∈ u_ws RX9 TX9 20, w ∈ wsX9_mayBe := fun _ h => List.mem_cons_of_mem _ (List.mem_append_right _ h)
def b_X9_mayBe_39 (a0 : Nat) (st0 : Int32) (M : zz_M) : Option (Int32 × zz_M) := zz_bd (f_X9_advance a0 M) (fun _ M_11 => some (st0, M_11))
set_option maxRecDepth 100000 in
set_option maxHeartbeats 4000000 in
theorem wb_X9_mayBe_39 {p : Program} {l : Launch} {e : Env} {s : State} {m : MethodId} {args : Array Value} {below : List Frame} {meth : Method} {c : Code} {E : zz_E} (C : zz_C E RX9 cX9_mayBe 7 wsX9_mayBe p s m args meth c) (hr : meth.sig.returnType = (some .int)) : ∀ (a0 : Nat) (st0 : Int32) (ha0 : zz_sh a0 = 9) (M : zz_M) (ls : Array Slot), lv_has ls 7 [(0, .ref (E.1 + a0))] → zz_Z E p l e (zz_rm 4) s m args below meth c (zz_Q (zz_pi E) E below args s) (b_X9_mayBe_39 a0 st0 M) M (F0 m 39 ls [.int st0]) := by
  intro a0 st0 ha0 M ls hl
  unfold b_X9_mayBe_39
  refine zz_istored (lv' := [(6, .int st0), (0, .ref (E.1 + a0))]) C dX9_mayBe_39 hl (by decide) rfl (fun ls hl => ?_)
  refine zz_aload_n C dX9_mayBe_41 rfl (lv_at hl 1 rfl) ?_
  refine zz_callVv (As := []) (rest := []) C (m_X9_advance l E a0 ha0 M) (cwV 0 C.1.2.2.2.2 gX9_mayBe_X9_advance rfl rfl rfl hdV_X9_advance ⟨Nat.le_of_ble_eq_true rfl, Nat.le_of_ble_eq_true rfl⟩) (zz_lt ha0 (by decide)) (zz_c9 ha0) rfl rfl hl.1 rfl (Nat.le_of_ble_eq_true rfl) dX9_mayBe_42 (fun _ M_11 => ?_)
  refine zz_iload C dX9_mayBe_45 (lv_at hl 0 rfl) ?_
  exact zz_iret C hr dX9_mayBe_47
def b_X9_mayBe_26 (a0 : Nat) (y1 : Int64) (M : zz_M) : Option (Int32 × zz_M) := zz_bd (f_X9_isWord a0 y1 M) (fun r_8 M_9 => (if r_8 = 0 then b_X9_mayBe_39  a0 (1 : Int32) M_9 else b_X9_mayBe_39  a0 (0 : Int32) M_9))
set_option maxRecDepth 100000 in
set_option maxHeartbeats 4000000 in
theorem wb_X9_mayBe_26 {p : Program} {l : Launch} {e : Env} {s : State} {m : MethodId} {args : Array Value} {below : List Frame} {meth : Method} {c : Code} {E : zz_E} (C : zz_C E RX9 cX9_mayBe 7 wsX9_mayBe p s m args meth c) (hr : meth.sig.returnType = (some .int)) : ∀ (a0 : Nat) (y1 : Int64) (ha0 : zz_sh a0 = 9) (M : zz_M) (ls : Array Slot), lv_has ls 7 [(0, .ref (E.1 + a0)), (1, .long y1)] → zz_Z E p l e (zz_rm 4) s m args below meth c (zz_Q (zz_pi E) E below args s) (b_X9_mayBe_26 a0 y1 M) M (F0 m 26 ls []) := by
  intro a0 y1 ha0 M ls hl
  unfold b_X9_mayBe_26
  refine zz_aload_n C dX9_mayBe_26 rfl (lv_at hl 0 rfl) ?_
  refine zz_lload_n C dX9_mayBe_27 rfl (lv_at hl 1 rfl) ?_
  refine zz_callVi (As := [.long y1]) (rest := []) C (m_X9_isWord l E a0 y1 ha0 M) (cwV 1 C.1.2.2.2.2 gX9_mayBe_X9_isWord rfl rfl rfl hdV_X9_isWord ⟨Nat.le_of_ble_eq_true rfl, Nat.le_of_ble_eq_true rfl⟩) (zz_lt ha0 (by decide)) (zz_c9 ha0) rfl rfl hl.1 rfl (Nat.le_of_ble_eq_true rfl) dX9_mayBe_28 (fun r_8 M_9 => ?_)
  refine zz_if_eq (tgt := 38) C dX9_mayBe_31 (by decide) (fun c_10 => ?_) (fun c_10 => ?_)
  · refine zz_iconst (v := 1) C dX9_mayBe_38 (by decide) ?_
    exact wb_X9_mayBe_39 C hr  a0 (1 : Int32) ha0 M_9 ls (lv_sub hl [0] rfl)
  · refine zz_iconst (v := 0) C dX9_mayBe_34 (by decide) ?_
    refine zz_goto (tgt := 39) C dX9_mayBe_35 (by decide) ?_
    exact wb_X9_mayBe_39 C hr  a0 (0 : Int32) ha0 M_9 ls (lv_sub hl [0] rfl)
def f_X9_mayBe (a0 : Nat) (y1 : Int64) (y3 : Int64) (x5 : Int32) (M : zz_M) : Option (Int32 × zz_M) := (if (zz_i M a0 12) = 0 then some (x5, M) else zz_bd (f_X9_isWord a0 y1 M) (fun r_2 M_3 => (if r_2 = 0 then zz_bd (f_X9_isWord a0 y3 M_3) (fun r_5 M_6 => (if r_5 = 0 then some (x5, M_6) else b_X9_mayBe_26  a0 y1 M_6)) else b_X9_mayBe_26  a0 y1 M_3)))
set_option maxRecDepth 100000 in
set_option maxHeartbeats 4000000 in
theorem m_X9_mayBe (l : Launch) (E : zz_E) (a0 : Nat) (y1 : Int64) (y3 : Int64) (x5 : Int32) (h0 : zz_sh a0 = 9) (M : zz_M) : zz_Met (zz_pi E) l yX9_mayBe wsX9_mayBe 4 E [.ref (E.1 + a0), .long y1, .long y3, .int x5] M (f_X9_mayBe a0 y1 y3 x5 M) := by
  refine zz_met (cc := cX9_mayBe) (nL := 7) (ret := (some .int)) (by decide) rfl (Nat.le_of_ble_eq_true rfl) ?_
  intro p e s m below meth c C hr ls hl
  have C : zz_C E RX9 cX9_mayBe 7 wsX9_mayBe p s m [.ref (E.1 + a0), .long y1, .long y3, .int x5].toArray meth c := C
  have hl : lv_has ls 7 [(0, .ref (E.1 + a0)), (1, .long y1), (3, .long y3), (5, .int x5)] := hl
  unfold f_X9_mayBe
  refine zz_aload_n C dX9_mayBe_0 rfl (lv_at hl 0 rfl) ?_
  refine zz_get C (zz_lt h0 (by decide)) (zz_c9 h0) rfl in_X9_mayBe_X9 12 (by decide) (List.mem_of_getElem? (i := 1) rfl) rfl dX9_mayBe_1 ?_
  refine zz_if_eq (tgt := 23) C dX9_mayBe_4 (by decide) (fun c_1 => ?_) (fun c_1 => ?_)
  · refine zz_iload C dX9_mayBe_23 (lv_at hl 3 rfl) ?_
    exact zz_iret C hr dX9_mayBe_25
  · refine zz_aload_n C dX9_mayBe_7 rfl (lv_at hl 0 rfl) ?_
    refine zz_lload_n C dX9_mayBe_8 rfl (lv_at hl 1 rfl) ?_
    refine zz_callVi (As := [.long y1]) (rest := []) C (m_X9_isWord l E a0 y1 h0 M) (cwV 1 C.1.2.2.2.2 gX9_mayBe_X9_isWord rfl rfl rfl hdV_X9_isWord ⟨Nat.le_of_ble_eq_true rfl, Nat.le_of_ble_eq_true rfl⟩) (zz_lt h0 (by decide)) (zz_c9 h0) rfl rfl hl.1 rfl (Nat.le_of_ble_eq_true rfl) dX9_mayBe_9 (fun r_2 M_3 => ?_)
    refine zz_if_ne (tgt := 26) C dX9_mayBe_12 (by decide) (fun c_4 => ?_) (fun c_4 => ?_)
    · refine zz_aload_n C dX9_mayBe_15 rfl (lv_at hl 0 rfl) ?_
      refine zz_lload_n C dX9_mayBe_16 rfl (lv_at hl 2 rfl) ?_
      refine zz_callVi (As := [.long y3]) (rest := []) C (m_X9_isWord l E a0 y3 h0 M_3) (cwV 1 C.1.2.2.2.2 gX9_mayBe_X9_isWord rfl rfl rfl hdV_X9_isWord ⟨Nat.le_of_ble_eq_true rfl, Nat.le_of_ble_eq_true rfl⟩) (zz_lt h0 (by decide)) (zz_c9 h0) rfl rfl hl.1 rfl (Nat.le_of_ble_eq_true rfl) dX9_mayBe_17 (fun r_5 M_6 => ?_)
      refine zz_if_ne (tgt := 26) C dX9_mayBe_20 (by decide) (fun c_7 => ?_) (fun c_7 => ?_)
      · refine zz_iload C dX9_mayBe_23 (lv_at hl 3 rfl) ?_
        exact zz_iret C hr dX9_mayBe_25
      · exact wb_X9_mayBe_26 C hr  a0 y1 h0 M_6 ls (lv_sub hl [0, 1] rfl)
    · exact wb_X9_mayBe_26 C hr  a0 y1 h0 M_3 ls (lv_sub hl [0, 1] rfl)
-- X9_wantCandle ('X9', 'wantCandle', '(I)V')
theorem in_X9_wantCandle_X9 : ∀ w ∈ u_ws RX9 TX9 20, w ∈ wsX9_wantCandle := fun _ h => List.mem_cons_of_mem _ (List.mem_append_right _ h)
def b_X9_wantCandle_17 (a0 : Nat) (x1 : Int32) (st0 : Int32) (rt1 : Nat) (M : zz_M) : Option (Unit × zz_M) := (if zz_bit st0 = true then zz_w (zz_si M rt1 12 st0) (fun M_2 => (if (zz_i M_2 a0 12) = 0 then some ((), M_2) else zz_bd (f_X9_advance a0 M_2) (fun _ M_4 => zz_bd (f_X9_addCandle a0 x1 M_4) (fun _ M_5 => some ((), M_5))))) else none)
set_option maxRecDepth 100000 in
set_option maxHeartbeats 4000000 in
theorem wb_X9_wantCandle_17 {p : Program} {l : Launch} {e : Env} {s : State} {m : MethodId} {args : Array Value} {below : List Frame} {meth : Method} {c : Code} {E : zz_E} (C : zz_C E RX9 cX9_wantCandle 2 wsX9_wantCandle p s m args meth c) (hr : meth.sig.returnType = none) : ∀ (a0 : Nat) (x1 : Int32) (st0 : Int32) (rt1 : Nat) (ha0 : zz_sh a0 = 9) (hrt1 : zz_sh rt1 = 9) (M : zz_M) (ls : Array Slot), lv_has ls 2 [(0, .ref (E.1 + a0)), (1, .int x1)] → zz_Z E p l e (zz_rm 4) s m args below meth c (zz_Q (zz_pv E) E below args s) (b_X9_wantCandle_17 a0 x1 st0 rt1 M) M (F0 m 17 ls [.int st0, .ref (E.1 + rt1)]) := by
  intro a0 x1 st0 rt1 ha0 hrt1 M ls hl
  unfold b_X9_wantCandle_17
  refine zz_guard (fun b_6 => ?_)
  refine zz_put (M1 := zz_si M rt1 12 st0) C (zz_lt hrt1 (by decide)) (zz_c9 hrt1) rfl in_X9_wantCandle_X9 tyX9 tyX9_ok nmX9 12 (by decide) (List.mem_of_getElem? (i := 2) rfl) rfl (zz_nb b_6) (zz_fb b_6) (Nat.le_of_ble_eq_true rfl) (zz_p9_12 hrt1) zz_cell_si dX9_wantCandle_17 (fun M_2 => ?_)
  refine zz_aload_n C dX9_wantCandle_20 rfl (lv_at hl 0 rfl) ?_
  refine zz_get C (zz_lt ha0 (by decide)) (zz_c9 ha0) rfl in_X9_wantCandle_X9 12 (by decide) (List.mem_of_getElem? (i := 2) rfl) rfl dX9_wantCandle_21 ?_
  refine zz_if_eq (tgt := 36) C dX9_wantCandle_24 (by decide) (fun c_3 => ?_) (fun c_3 => ?_)
  · exact zz_vret C hr dX9_wantCandle_36
  · refine zz_aload_n C dX9_wantCandle_27 rfl (lv_at hl 0 rfl) ?_
    refine zz_callVv (As := []) (rest := []) C (m_X9_advance l E a0 ha0 M_2) (cwV 0 C.1.2.2.2.2 gX9_wantCandle_X9_advance rfl rfl rfl hdV_X9_advance ⟨Nat.le_of_ble_eq_true rfl, Nat.le_of_ble_eq_true rfl⟩) (zz_lt ha0 (by decide)) (zz_c9 ha0) rfl rfl hl.1 rfl (Nat.le_of_ble_eq_true rfl) dX9_wantCandle_28 (fun _ M_4 => ?_)
    refine zz_aload_n C dX9_wantCandle_31 rfl (lv_at hl 0 rfl) ?_
    refine zz_iload_n C dX9_wantCandle_32 rfl (lv_at hl 1 rfl) ?_
    refine zz_callVv (As := [.int x1]) (rest := []) C (m_X9_addCandle l E a0 x1 ha0 M_4) (cwV 1 C.1.2.2.2.2 gX9_wantCandle_X9_addCandle rfl rfl rfl hdV_X9_addCandle ⟨Nat.le_of_ble_eq_true rfl, Nat.le_of_ble_eq_true rfl⟩) (zz_lt ha0 (by decide)) (zz_c9 ha0) rfl rfl hl.1 rfl (Nat.le_of_ble_eq_true rfl) dX9_wantCandle_33 (fun _ M_5 => ?_)
    exact zz_vret C hr dX9_wantCandle_36
def f_X9_wantCandle (a0 : Nat) (x1 : Int32) (M : zz_M) : Option (Unit × zz_M) := (if zz_in (0 : Int32) 440 = true then (if (10 : Int32) ≤ (zz_i M 130 (zz_n (0 : Int32))) then b_X9_wantCandle_17  a0 x1 (0 : Int32) a0 M else b_X9_wantCandle_17  a0 x1 (1 : Int32) a0 M) else none)
set_option maxRecDepth 100000 in
set_option maxHeartbeats 4000000 in
theorem m_X9_wantCandle (l : Launch) (E : zz_E) (a0 : Nat) (x1 : Int32) (h0 : zz_sh a0 = 9) (M : zz_M) : zz_Met (zz_pv E) l yX9_wantCandle wsX9_wantCandle 4 E [.ref (E.1 + a0), .int x1] M (f_X9_wantCandle a0 x1 M) := by
  refine zz_met (cc := cX9_wantCandle) (nL := 2) (ret := none) (by decide) rfl (Nat.le_of_ble_eq_true rfl) ?_
  intro p e s m below meth c C hr ls hl
  have C : zz_C E RX9 cX9_wantCandle 2 wsX9_wantCandle p s m [.ref (E.1 + a0), .int x1].toArray meth c := C
  have hl : lv_has ls 2 [(0, .ref (E.1 + a0)), (1, .int x1)] := hl
  unfold f_X9_wantCandle
  refine zz_aload_n C dX9_wantCandle_0 rfl (lv_at hl 0 rfl) ?_
  refine zz_aload_n C dX9_wantCandle_1 rfl (lv_at hl 0 rfl) ?_
  refine zz_get C (zz_lt h0 (by decide)) (zz_c9 h0) rfl in_X9_wantCandle_X9 0 (by decide) (List.mem_of_getElem? (i := 1) rfl) rfl dX9_wantCandle_2 ?_
  refine zz_iconst (v := 0) C dX9_wantCandle_5 (by decide) ?_
  refine zz_iald C (zz_lt (zz_s9_0 h0) (by decide)) (zz_c13 (zz_s9_0 h0)) dX9_wantCandle_6 ?_
  refine zz_bipush (v := 10) C dX9_wantCandle_7 (by decide) ?_
  refine zz_icmp_ge (tgt := 16) C dX9_wantCandle_9 (by decide) (fun c_1 => ?_) (fun c_1 => ?_)
  · refine zz_iconst (v := 0) C dX9_wantCandle_16 (by decide) ?_
    exact wb_X9_wantCandle_17 C hr  a0 x1 (0 : Int32) a0 h0 h0 M ls (lv_sub hl [0, 1] rfl)
  · refine zz_iconst (v := 1) C dX9_wantCandle_12 (by decide) ?_
    refine zz_goto (tgt := 17) C dX9_wantCandle_13 (by decide) ?_
    exact wb_X9_wantCandle_17 C hr  a0 x1 (1 : Int32) a0 h0 h0 M ls (lv_sub hl [0, 1] rfl)
-- X9_wantVat ('X9', 'wantVat', '()V')
theorem in_X9_wantVat_X9 : ∀ w ∈ u_ws RX9 TX9 20, w ∈ wsX9_wantVat := fun _ h => List.mem_cons_of_mem _ (List.mem_append_right _ h)
theorem hdV_X9_mayBe : yX9_mayBe.cls = RX9 ∧ yX9_mayBe.cls ≠ "java/lang/invoke/MethodHandle" ∧ yX9_mayBe.cls ≠ "java/lang/invoke/VarHandle" ∧ (parseMethodDescriptor yX9_mayBe.desc).map (fun d => d.parameters.length) = some 3 := by decide +kernel
theorem hdV_X9_mayWant : yX9_mayWant.cls = RX9 ∧ yX9_mayWant.cls ≠ "java/lang/invoke/MethodHandle" ∧ yX9_mayWant.cls ≠ "java/lang/invoke/VarHandle" ∧ (parseMethodDescriptor yX9_mayWant.desc).map (fun d => d.parameters.length) = some 4 := by decide +kernel
def b_X9_wantVat_23 (a0 : Nat) (x1 : Int32) (st0 : Int32) (M : zz_M) : Option (Unit × zz_M) := zz_bd (f_X9_its a0 st0 (0 : Int32) M) (fun r_5 M_6 => zz_bd (f_X9_mayBe a0 (287754953 : Int64) (16818 : Int64) r_5 M_6) (fun r_7 M_8 => zz_bd (f_X9_its a0 st0 (1 : Int32) M_8) (fun r_9 M_10 => zz_bd (f_X9_mayWant a0 (453937 : Int64) (0 : Int32) (99 : Int32) r_9 M_10) (fun r_11 M_12 => zz_bd (f_X9_its a0 st0 (2 : Int32) M_12) (fun r_13 M_14 => zz_bd (f_X9_mayWant a0 (4555648 : Int64) (0 : Int32) (99999 : Int32) r_13 M_14) (fun r_15 M_16 => zz_bd (f_X9_its a0 st0 (3 : Int32) M_16) (fun r_17 M_18 => zz_bd (f_X9_mayBe a0 (70312 : Int64) (125150 : Int64) r_17 M_18) (fun r_19 M_20 => (if (zz_i M_20 a0 12) = 0 then some ((), M_20) else zz_bd (f_X9_setVat a0 x1 (0 : Int32) r_7 M_20) (fun _ M_22 => zz_bd (f_X9_setVat a0 x1 (1 : Int32) r_11 M_22) (fun _ M_23 => zz_bd (f_X9_setVat a0 x1 (2 : Int32) r_15 M_23) (fun _ M_24 => zz_bd (f_X9_setVat a0 x1 (3 : Int32) r_19 M_24) (fun _ M_25 => some ((), M_25))))))))))))))
set_option maxRecDepth 100000 in
set_option maxHeartbeats 4000000 in
theorem wb_X9_wantVat_23 {p : Program} {l : Launch} {e : Env} {s : State} {m : MethodId} {args : Array Value} {below : List Frame} {meth : Method} {c : Code} {E : zz_E} (C : zz_C E RX9 cX9_wantVat 7 wsX9_wantVat p s m args meth c) (hr : meth.sig.returnType = none) : ∀ (a0 : Nat) (x1 : Int32) (st0 : Int32) (ha0 : zz_sh a0 = 9) (M : zz_M) (ls : Array Slot), lv_has ls 7 [(0, .ref (E.1 + a0)), (1, .int x1)] → zz_Z E p l e (zz_rm 6) s m args below meth c (zz_Q (zz_pv E) E below args s) (b_X9_wantVat_23 a0 x1 st0 M) M (F0 m 23 ls [.int st0]) := by
  intro a0 x1 st0 ha0 M ls hl
  unfold b_X9_wantVat_23
  refine zz_istored_n (lv' := [(2, .int st0), (0, .ref (E.1 + a0)), (1, .int x1)]) C dX9_wantVat_23 rfl hl (by decide) rfl (fun ls hl => ?_)
  refine zz_aload_n C dX9_wantVat_24 rfl (lv_at hl 1 rfl) ?_
  refine zz_ldc2 (v := 287754953) C (List.mem_of_getElem? (i := 2) rfl) dX9_wantVat_25 ?_
  refine zz_ldc2 (v := 16818) C (List.mem_of_getElem? (i := 3) rfl) dX9_wantVat_28 ?_
  refine zz_aload_n C dX9_wantVat_31 rfl (lv_at hl 1 rfl) ?_
  refine zz_iload_n C dX9_wantVat_32 rfl (lv_at hl 0 rfl) ?_
  refine zz_iconst (v := 0) C dX9_wantVat_33 (by decide) ?_
  refine zz_callVi (As := [.int st0, .int (0 : Int32)]) (rest := [.long (16818 : Int64), .long (287754953 : Int64), .ref (E.1 + a0)]) C (m_X9_its l E a0 st0 (0 : Int32) ha0 M) (cwV 2 C.1.2.2.2.2 gX9_wantVat_X9_its rfl rfl rfl hdV_X9_its ⟨Nat.le_of_ble_eq_true rfl, Nat.le_of_ble_eq_true rfl⟩) (zz_lt ha0 (by decide)) (zz_c9 ha0) rfl rfl hl.1 rfl (Nat.le_of_ble_eq_true rfl) dX9_wantVat_34 (fun r_5 M_6 => ?_)
  refine zz_callVi (As := [.long (287754953 : Int64), .long (16818 : Int64), .int r_5]) (rest := []) C (m_X9_mayBe l E a0 (287754953 : Int64) (16818 : Int64) r_5 ha0 M_6) (cwV 3 C.1.2.2.2.2 gX9_wantVat_X9_mayBe rfl rfl rfl hdV_X9_mayBe ⟨Nat.le_of_ble_eq_true rfl, Nat.le_of_ble_eq_true rfl⟩) (zz_lt ha0 (by decide)) (zz_c9 ha0) rfl rfl hl.1 rfl (Nat.le_of_ble_eq_true rfl) dX9_wantVat_37 (fun r_7 M_8 => ?_)
  refine zz_istored_n (lv' := [(3, .int r_7), (2, .int st0), (0, .ref (E.1 + a0)), (1, .int x1)]) C dX9_wantVat_40 rfl hl (by decide) rfl (fun ls hl => ?_)
  refine zz_aload_n C dX9_wantVat_41 rfl (lv_at hl 2 rfl) ?_
  refine zz_ldc2 (v := 453937) C (List.mem_of_getElem? (i := 4) rfl) dX9_wantVat_42 ?_
  refine zz_iconst (v := 0) C dX9_wantVat_45 (by decide) ?_
  refine zz_bipush (v := 99) C dX9_wantVat_46 (by decide) ?_
  refine zz_aload_n C dX9_wantVat_48 rfl (lv_at hl 2 rfl) ?_
  refine zz_iload_n C dX9_wantVat_49 rfl (lv_at hl 1 rfl) ?_
  refine zz_iconst (v := 1) C dX9_wantVat_50 (by decide) ?_
  refine zz_callVi (As := [.int st0, .int (1 : Int32)]) (rest := [.int (99 : Int32), .int (0 : Int32), .long (453937 : Int64), .ref (E.1 + a0)]) C (m_X9_its l E a0 st0 (1 : Int32) ha0 M_8) (cwV 2 C.1.2.2.2.2 gX9_wantVat_X9_its rfl rfl rfl hdV_X9_its ⟨Nat.le_of_ble_eq_true rfl, Nat.le_of_ble_eq_true rfl⟩) (zz_lt ha0 (by decide)) (zz_c9 ha0) rfl rfl hl.1 rfl (Nat.le_of_ble_eq_true rfl) dX9_wantVat_51 (fun r_9 M_10 => ?_)
  refine zz_callVi (As := [.long (453937 : Int64), .int (0 : Int32), .int (99 : Int32), .int r_9]) (rest := []) C (m_X9_mayWant l E a0 (453937 : Int64) (0 : Int32) (99 : Int32) r_9 ha0 M_10) (cwV 4 C.1.2.2.2.2 gX9_wantVat_X9_mayWant rfl rfl rfl hdV_X9_mayWant ⟨Nat.le_of_ble_eq_true rfl, Nat.le_of_ble_eq_true rfl⟩) (zz_lt ha0 (by decide)) (zz_c9 ha0) rfl rfl hl.1 rfl (Nat.le_of_ble_eq_true rfl) dX9_wantVat_54 (fun r_11 M_12 => ?_)
  refine zz_istored (lv' := [(4, .int r_11), (3, .int r_7), (2, .int st0), (0, .ref (E.1 + a0)), (1, .int x1)]) C dX9_wantVat_57 hl (by decide) rfl (fun ls hl => ?_)
  refine zz_aload_n C dX9_wantVat_59 rfl (lv_at hl 3 rfl) ?_
  refine zz_ldc2 (v := 4555648) C (List.mem_of_getElem? (i := 5) rfl) dX9_wantVat_60 ?_
  refine zz_iconst (v := 0) C dX9_wantVat_63 (by decide) ?_
  refine zz_ldc (v := 99999) C (List.mem_of_getElem? (i := 6) rfl) dX9_wantVat_64 ?_
  refine zz_aload_n C dX9_wantVat_66 rfl (lv_at hl 3 rfl) ?_
  refine zz_iload_n C dX9_wantVat_67 rfl (lv_at hl 2 rfl) ?_
  refine zz_iconst (v := 2) C dX9_wantVat_68 (by decide) ?_
  refine zz_callVi (As := [.int st0, .int (2 : Int32)]) (rest := [.int (99999 : Int32), .int (0 : Int32), .long (4555648 : Int64), .ref (E.1 + a0)]) C (m_X9_its l E a0 st0 (2 : Int32) ha0 M_12) (cwV 2 C.1.2.2.2.2 gX9_wantVat_X9_its rfl rfl rfl hdV_X9_its ⟨Nat.le_of_ble_eq_true rfl, Nat.le_of_ble_eq_true rfl⟩) (zz_lt ha0 (by decide)) (zz_c9 ha0) rfl rfl hl.1 rfl (Nat.le_of_ble_eq_true rfl) dX9_wantVat_69 (fun r_13 M_14 => ?_)
  refine zz_callVi (As := [.long (4555648 : Int64), .int (0 : Int32), .int (99999 : Int32), .int r_13]) (rest := []) C (m_X9_mayWant l E a0 (4555648 : Int64) (0 : Int32) (99999 : Int32) r_13 ha0 M_14) (cwV 4 C.1.2.2.2.2 gX9_wantVat_X9_mayWant rfl rfl rfl hdV_X9_mayWant ⟨Nat.le_of_ble_eq_true rfl, Nat.le_of_ble_eq_true rfl⟩) (zz_lt ha0 (by decide)) (zz_c9 ha0) rfl rfl hl.1 rfl (Nat.le_of_ble_eq_true rfl) dX9_wantVat_72 (fun r_15 M_16 => ?_)
  refine zz_istored (lv' := [(5, .int r_15), (4, .int r_11), (3, .int r_7), (2, .int st0), (0, .ref (E.1 + a0)), (1, .int x1)]) C dX9_wantVat_75 hl (by decide) rfl (fun ls hl => ?_)
  refine zz_aload_n C dX9_wantVat_77 rfl (lv_at hl 4 rfl) ?_
  refine zz_ldc2 (v := 70312) C (List.mem_of_getElem? (i := 7) rfl) dX9_wantVat_78 ?_
  refine zz_ldc2 (v := 125150) C (List.mem_of_getElem? (i := 8) rfl) dX9_wantVat_81 ?_
  refine zz_aload_n C dX9_wantVat_84 rfl (lv_at hl 4 rfl) ?_
  refine zz_iload_n C dX9_wantVat_85 rfl (lv_at hl 3 rfl) ?_
  refine zz_iconst (v := 3) C dX9_wantVat_86 (by decide) ?_
  refine zz_callVi (As := [.int st0, .int (3 : Int32)]) (rest := [.long (125150 : Int64), .long (70312 : Int64), .ref (E.1 + a0)]) C (m_X9_its l E a0 st0 (3 : Int32) ha0 M_16) (cwV 2 C.1.2.2.2.2 gX9_wantVat_X9_its rfl rfl rfl hdV_X9_its ⟨Nat.le_of_ble_eq_true rfl, Nat.le_of_ble_eq_true rfl⟩) (zz_lt ha0 (by decide)) (zz_c9 ha0) rfl rfl hl.1 rfl (Nat.le_of_ble_eq_true rfl) dX9_wantVat_87 (fun r_17 M_18 => ?_)
  refine zz_callVi (As := [.long (70312 : Int64), .long (125150 : Int64), .int r_17]) (rest := []) C (m_X9_mayBe l E a0 (70312 : Int64) (125150 : Int64) r_17 ha0 M_18) (cwV 3 C.1.2.2.2.2 gX9_wantVat_X9_mayBe rfl rfl rfl hdV_X9_mayBe ⟨Nat.le_of_ble_eq_true rfl, Nat.le_of_ble_eq_true rfl⟩) (zz_lt ha0 (by decide)) (zz_c9 ha0) rfl rfl hl.1 rfl (Nat.le_of_ble_eq_true rfl) dX9_wantVat_90 (fun r_19 M_20 => ?_)
  refine zz_istored (lv' := [(6, .int r_19), (5, .int r_15), (4, .int r_11), (3, .int r_7), (2, .int st0), (0, .ref (E.1 + a0)), (1, .int x1)]) C dX9_wantVat_93 hl (by decide) rfl (fun ls hl => ?_)
  refine zz_aload_n C dX9_wantVat_95 rfl (lv_at hl 5 rfl) ?_
  refine zz_get C (zz_lt ha0 (by decide)) (zz_c9 ha0) rfl in_X9_wantVat_X9 12 (by decide) (List.mem_of_getElem? (i := 1) rfl) rfl dX9_wantVat_96 ?_
  refine zz_if_eq (tgt := 133) C dX9_wantVat_99 (by decide) (fun c_21 => ?_) (fun c_21 => ?_)
  · exact zz_vret C hr dX9_wantVat_133
  · refine zz_aload_n C dX9_wantVat_102 rfl (lv_at hl 5 rfl) ?_
    refine zz_iload_n C dX9_wantVat_103 rfl (lv_at hl 6 rfl) ?_
    refine zz_iconst (v := 0) C dX9_wantVat_104 (by decide) ?_
    refine zz_iload_n C dX9_wantVat_105 rfl (lv_at hl 3 rfl) ?_
    refine zz_callVv (As := [.int x1, .int (0 : Int32), .int r_7]) (rest := []) C (m_X9_setVat l E a0 x1 (0 : Int32) r_7 ha0 M_20) (cwV 3 C.1.2.2.2.2 gX9_wantVat_X9_setVat rfl rfl rfl hdV_X9_setVat ⟨Nat.le_of_ble_eq_true rfl, Nat.le_of_ble_eq_true rfl⟩) (zz_lt ha0 (by decide)) (zz_c9 ha0) rfl rfl hl.1 rfl (Nat.le_of_ble_eq_true rfl) dX9_wantVat_106 (fun _ M_22 => ?_)
    refine zz_aload_n C dX9_wantVat_109 rfl (lv_at hl 5 rfl) ?_
    refine zz_iload_n C dX9_wantVat_110 rfl (lv_at hl 6 rfl) ?_
    refine zz_iconst (v := 1) C dX9_wantVat_111 (by decide) ?_
    refine zz_iload C dX9_wantVat_112 (lv_at hl 2 rfl) ?_
    refine zz_callVv (As := [.int x1, .int (1 : Int32), .int r_11]) (rest := []) C (m_X9_setVat l E a0 x1 (1 : Int32) r_11 ha0 M_22) (cwV 3 C.1.2.2.2.2 gX9_wantVat_X9_setVat rfl rfl rfl hdV_X9_setVat ⟨Nat.le_of_ble_eq_true rfl, Nat.le_of_ble_eq_true rfl⟩) (zz_lt ha0 (by decide)) (zz_c9 ha0) rfl rfl hl.1 rfl (Nat.le_of_ble_eq_true rfl) dX9_wantVat_114 (fun _ M_23 => ?_)
    refine zz_aload_n C dX9_wantVat_117 rfl (lv_at hl 5 rfl) ?_
    refine zz_iload_n C dX9_wantVat_118 rfl (lv_at hl 6 rfl) ?_
    refine zz_iconst (v := 2) C dX9_wantVat_119 (by decide) ?_
    refine zz_iload C dX9_wantVat_120 (lv_at hl 1 rfl) ?_
    refine zz_callVv (As := [.int x1, .int (2 : Int32), .int r_15]) (rest := []) C (m_X9_setVat l E a0 x1 (2 : Int32) r_15 ha0 M_23) (cwV 3 C.1.2.2.2.2 gX9_wantVat_X9_setVat rfl rfl rfl hdV_X9_setVat ⟨Nat.le_of_ble_eq_true rfl, Nat.le_of_ble_eq_true rfl⟩) (zz_lt ha0 (by decide)) (zz_c9 ha0) rfl rfl hl.1 rfl (Nat.le_of_ble_eq_true rfl) dX9_wantVat_122 (fun _ M_24 => ?_)
    refine zz_aload_n C dX9_wantVat_125 rfl (lv_at hl 5 rfl) ?_
    refine zz_iload_n C dX9_wantVat_126 rfl (lv_at hl 6 rfl) ?_
    refine zz_iconst (v := 3) C dX9_wantVat_127 (by decide) ?_
    refine zz_iload C dX9_wantVat_128 (lv_at hl 0 rfl) ?_
    refine zz_callVv (As := [.int x1, .int (3 : Int32), .int r_19]) (rest := []) C (m_X9_setVat l E a0 x1 (3 : Int32) r_19 ha0 M_24) (cwV 3 C.1.2.2.2.2 gX9_wantVat_X9_setVat rfl rfl rfl hdV_X9_setVat ⟨Nat.le_of_ble_eq_true rfl, Nat.le_of_ble_eq_true rfl⟩) (zz_lt ha0 (by decide)) (zz_c9 ha0) rfl rfl hl.1 rfl (Nat.le_of_ble_eq_true rfl) dX9_wantVat_130 (fun _ M_25 => ?_)
    exact zz_vret C hr dX9_wantVat_133
def f_X9_wantVat (a0 : Nat) (M : zz_M) : Option (Unit × zz_M) := zz_bd (f_X9_advance a0 M) (fun _ M_1 => zz_bd (f_X9_wantNumber a0 (0 : Int32) (3 : Int32) M_1) (fun r_2 M_3 => (if (zz_i M_3 a0 12) = 0 then b_X9_wantVat_23  a0 r_2 (0 : Int32) M_3 else b_X9_wantVat_23  a0 r_2 r_2 M_3)))
set_option maxRecDepth 100000 in
set_option maxHeartbeats 4000000 in
theorem m_X9_wantVat (l : Launch) (E : zz_E) (a0 : Nat) (h0 : zz_sh a0 = 9) (M : zz_M) : zz_Met (zz_pv E) l yX9_wantVat wsX9_wantVat 6 E [.ref (E.1 + a0)] M (f_X9_wantVat a0 M) := by
  refine zz_met (cc := cX9_wantVat) (nL := 7) (ret := none) (by decide) rfl (Nat.le_of_ble_eq_true rfl) ?_
  intro p e s m below meth c C hr ls hl
  have C : zz_C E RX9 cX9_wantVat 7 wsX9_wantVat p s m [.ref (E.1 + a0)].toArray meth c := C
  have hl : lv_has ls 7 [(0, .ref (E.1 + a0))] := hl
  unfold f_X9_wantVat
  refine zz_aload_n C dX9_wantVat_0 rfl (lv_at hl 0 rfl) ?_
  refine zz_callVv (As := []) (rest := []) C (m_X9_advance l E a0 h0 M) (cwV 0 C.1.2.2.2.2 gX9_wantVat_X9_advance rfl rfl rfl hdV_X9_advance ⟨Nat.le_of_ble_eq_true rfl, Nat.le_of_ble_eq_true rfl⟩) (zz_lt h0 (by decide)) (zz_c9 h0) rfl rfl hl.1 rfl (Nat.le_of_ble_eq_true rfl) dX9_wantVat_1 (fun _ M_1 => ?_)
  refine zz_aload_n C dX9_wantVat_4 rfl (lv_at hl 0 rfl) ?_
  refine zz_iconst (v := 0) C dX9_wantVat_5 (by decide) ?_
  refine zz_iconst (v := 3) C dX9_wantVat_6 (by decide) ?_
  refine zz_callVi (As := [.int (0 : Int32), .int (3 : Int32)]) (rest := []) C (m_X9_wantNumber l E a0 (0 : Int32) (3 : Int32) h0 M_1) (cwV 2 C.1.2.2.2.2 gX9_wantVat_X9_wantNumber rfl rfl rfl hdV_X9_wantNumber ⟨Nat.le_of_ble_eq_true rfl, Nat.le_of_ble_eq_true rfl⟩) (zz_lt h0 (by decide)) (zz_c9 h0) rfl rfl hl.1 rfl (Nat.le_of_ble_eq_true rfl) dX9_wantVat_7 (fun r_2 M_3 => ?_)
  refine zz_istored_n (lv' := [(1, .int r_2), (0, .ref (E.1 + a0))]) C dX9_wantVat_10 rfl hl (by decide) rfl (fun ls hl => ?_)
  refine zz_aload_n C dX9_wantVat_11 rfl (lv_at hl 1 rfl) ?_
  refine zz_get C (zz_lt h0 (by decide)) (zz_c9 h0) rfl in_X9_wantVat_X9 12 (by decide) (List.mem_of_getElem? (i := 1) rfl) rfl dX9_wantVat_12 ?_
  refine zz_if_eq (tgt := 22) C dX9_wantVat_15 (by decide) (fun c_4 => ?_) (fun c_4 => ?_)
  · refine zz_iconst (v := 0) C dX9_wantVat_22 (by decide) ?_
    exact wb_X9_wantVat_23 C hr  a0 r_2 (0 : Int32) h0 M_3 ls (lv_sub hl [1, 0] rfl)
  · refine zz_iload_n C dX9_wantVat_18 rfl (lv_at hl 0 rfl) ?_
    refine zz_goto (tgt := 23) C dX9_wantVat_19 (by decide) ?_
    exact wb_X9_wantVat_23 C hr  a0 r_2 r_2 h0 M_3 ls (lv_sub hl [1, 0] rfl)
-- X9_wantDip ('X9', 'wantDip', '()V')
theorem in_X9_wantDip_X9 : ∀ w ∈ u_ws RX9 TX9 20, w ∈ wsX9_wantDip := fun _ h => List.mem_cons_of_mem _ (List.mem_append_right _ h)
theorem hdV_X9_wantWord : yX9_wantWord.cls = RX9 ∧ yX9_wantWord.cls ≠ "java/lang/invoke/MethodHandle" ∧ yX9_wantWord.cls ≠ "java/lang/invoke/VarHandle" ∧ (parseMethodDescriptor yX9_wantWord.desc).map (fun d => d.parameters.length) = some 1 := by decide +kernel
def f_X9_wantDip (a0 : Nat) (M : zz_M) : Option (Unit × zz_M) := zz_bd (f_X9_advance a0 M) (fun _ M_1 => (if zz_in (0 : Int32) 440 = true then zz_bd (f_X9_wantNumber a0 (0 : Int32) ((zz_i M_1 130 (zz_n (0 : Int32))) - (1 : Int32)) M_1) (fun r_2 M_3 => zz_bd (f_X9_wantWord a0 (257 : Int64) M_3) (fun _ M_4 => zz_bd (f_X9_wantNumber a0 (0 : Int32) (3 : Int32) M_4) (fun r_5 M_6 => (if (zz_i M_6 a0 12) = 0 then some ((), M_6) else zz_bd (f_X9_dips a0 r_2 r_5 M_6) (fun _ M_8 => some ((), M_8)))))) else none))
set_option maxRecDepth 100000 in
set_option maxHeartbeats 4000000 in
theorem m_X9_wantDip (l : Launch) (E : zz_E) (a0 : Nat) (h0 : zz_sh a0 = 9) (M : zz_M) : zz_Met (zz_pv E) l yX9_wantDip wsX9_wantDip 5 E [.ref (E.1 + a0)] M (f_X9_wantDip a0 M) := by
  refine zz_met (cc := cX9_wantDip) (nL := 3) (ret := none) (by decide) rfl (Nat.le_of_ble_eq_true rfl) ?_
  intro p e s m below meth c C hr ls hl
  have C : zz_C E RX9 cX9_wantDip 3 wsX9_wantDip p s m [.ref (E.1 + a0)].toArray meth c := C
  have hl : lv_has ls 3 [(0, .ref (E.1 + a0))] := hl
  unfold f_X9_wantDip
  refine zz_aload_n C dX9_wantDip_0 rfl (lv_at hl 0 rfl) ?_
  refine zz_callVv (As := []) (rest := []) C (m_X9_advance l E a0 h0 M) (cwV 0 C.1.2.2.2.2 gX9_wantDip_X9_advance rfl rfl rfl hdV_X9_advance ⟨Nat.le_of_ble_eq_true rfl, Nat.le_of_ble_eq_true rfl⟩) (zz_lt h0 (by decide)) (zz_c9 h0) rfl rfl hl.1 rfl (Nat.le_of_ble_eq_true rfl) dX9_wantDip_1 (fun _ M_1 => ?_)
  refine zz_aload_n C dX9_wantDip_4 rfl (lv_at hl 0 rfl) ?_
  refine zz_iconst (v := 0) C dX9_wantDip_5 (by decide) ?_
  refine zz_aload_n C dX9_wantDip_6 rfl (lv_at hl 0 rfl) ?_
  refine zz_get C (zz_lt h0 (by decide)) (zz_c9 h0) rfl in_X9_wantDip_X9 0 (by decide) (List.mem_of_getElem? (i := 1) rfl) rfl dX9_wantDip_7 ?_
  refine zz_iconst (v := 0) C dX9_wantDip_10 (by decide) ?_
  refine zz_iald C (zz_lt (zz_s9_0 h0) (by decide)) (zz_c13 (zz_s9_0 h0)) dX9_wantDip_11 ?_
  refine zz_iconst (v := 1) C dX9_wantDip_12 (by decide) ?_
  refine zz_isub C dX9_wantDip_13 ?_
  refine zz_callVi (As := [.int (0 : Int32), .int ((zz_i M_1 130 (zz_n (0 : Int32))) - (1 : Int32))]) (rest := []) C (m_X9_wantNumber l E a0 (0 : Int32) ((zz_i M_1 130 (zz_n (0 : Int32))) - (1 : Int32)) h0 M_1) (cwV 2 C.1.2.2.2.2 gX9_wantDip_X9_wantNumber rfl rfl rfl hdV_X9_wantNumber ⟨Nat.le_of_ble_eq_true rfl, Nat.le_of_ble_eq_true rfl⟩) (zz_lt h0 (by decide)) (zz_c9 h0) rfl rfl hl.1 rfl (Nat.le_of_ble_eq_true rfl) dX9_wantDip_14 (fun r_2 M_3 => ?_)
  refine zz_istored_n (lv' := [(1, .int r_2), (0, .ref (E.1 + a0))]) C dX9_wantDip_17 rfl hl (by decide) rfl (fun ls hl => ?_)
  refine zz_aload_n C dX9_wantDip_18 rfl (lv_at hl 1 rfl) ?_
  refine zz_ldc2 (v := 257) C (List.mem_of_getElem? (i := 2) rfl) dX9_wantDip_19 ?_
  refine zz_callVv (As := [.long (257 : Int64)]) (rest := []) C (m_X9_wantWord l E a0 (257 : Int64) h0 M_3) (cwV 1 C.1.2.2.2.2 gX9_wantDip_X9_wantWord rfl rfl rfl hdV_X9_wantWord ⟨Nat.le_of_ble_eq_true rfl, Nat.le_of_ble_eq_true rfl⟩) (zz_lt h0 (by decide)) (zz_c9 h0) rfl rfl hl.1 rfl (Nat.le_of_ble_eq_true rfl) dX9_wantDip_22 (fun _ M_4 => ?_)
  refine zz_aload_n C dX9_wantDip_25 rfl (lv_at hl 1 rfl) ?_
  refine zz_iconst (v := 0) C dX9_wantDip_26 (by decide) ?_
  refine zz_iconst (v := 3) C dX9_wantDip_27 (by decide) ?_
  refine zz_callVi (As := [.int (0 : Int32), .int (3 : Int32)]) (rest := []) C (m_X9_wantNumber l E a0 (0 : Int32) (3 : Int32) h0 M_4) (cwV 2 C.1.2.2.2.2 gX9_wantDip_X9_wantNumber rfl rfl rfl hdV_X9_wantNumber ⟨Nat.le_of_ble_eq_true rfl, Nat.le_of_ble_eq_true rfl⟩) (zz_lt h0 (by decide)) (zz_c9 h0) rfl rfl hl.1 rfl (Nat.le_of_ble_eq_true rfl) dX9_wantDip_28 (fun r_5 M_6 => ?_)
  refine zz_istored_n (lv' := [(2, .int r_5), (1, .int r_2), (0, .ref (E.1 + a0))]) C dX9_wantDip_31 rfl hl (by decide) rfl (fun ls hl => ?_)
  refine zz_aload_n C dX9_wantDip_32 rfl (lv_at hl 2 rfl) ?_
  refine zz_get C (zz_lt h0 (by decide)) (zz_c9 h0) rfl in_X9_wantDip_X9 12 (by decide) (List.mem_of_getElem? (i := 3) rfl) rfl dX9_wantDip_33 ?_
  refine zz_if_eq (tgt := 45) C dX9_wantDip_36 (by decide) (fun c_7 => ?_) (fun c_7 => ?_)
  · exact zz_vret C hr dX9_wantDip_45
  · refine zz_aload_n C dX9_wantDip_39 rfl (lv_at hl 2 rfl) ?_
    refine zz_iload_n C dX9_wantDip_40 rfl (lv_at hl 1 rfl) ?_
    refine zz_iload_n C dX9_wantDip_41 rfl (lv_at hl 0 rfl) ?_
    refine zz_callVv (As := [.int r_2, .int r_5]) (rest := []) C (m_X9_dips l E a0 r_2 r_5 h0 M_6) (cwV 2 C.1.2.2.2.2 gX9_wantDip_X9_dips rfl rfl rfl hdV_X9_dips ⟨Nat.le_of_ble_eq_true rfl, Nat.le_of_ble_eq_true rfl⟩) (zz_lt h0 (by decide)) (zz_c9 h0) rfl rfl hl.1 rfl (Nat.le_of_ble_eq_true rfl) dX9_wantDip_42 (fun _ M_8 => ?_)
    exact zz_vret C hr dX9_wantDip_45
-- X9_wantLet ('X9', 'wantLet', '(II)V')
theorem in_X9_wantLet_X9 : ∀ w ∈ u_ws RX9 TX9 20, w ∈ wsX9_wantLet := fun _ h => List.mem_cons_of_mem _ (List.mem_append_right _ h)
def f_X9_wantLet (a0 : Nat) (x1 : Int32) (x2 : Int32) (M : zz_M) : Option (Unit × zz_M) := zz_bd (f_X9_advance a0 M) (fun _ M_1 => zz_bd (f_X9_wantNumber a0 (0 : Int32) x2 M_1) (fun r_2 M_3 => (if (zz_i M_3 a0 12) = 0 then some ((), M_3) else (if zz_in x1 440 = true then zz_w (zz_si M_3 130 (zz_n x1) r_2) (fun M_5 => some ((), M_5)) else none))))
set_option maxRecDepth 100000 in
set_option maxHeartbeats 4000000 in
theorem m_X9_wantLet (l : Launch) (E : zz_E) (a0 : Nat) (x1 : Int32) (x2 : Int32) (h0 : zz_sh a0 = 9) (M : zz_M) : zz_Met (zz_pv E) l yX9_wantLet wsX9_wantLet 5 E [.ref (E.1 + a0), .int x1, .int x2] M (f_X9_wantLet a0 x1 x2 M) := by
  refine zz_met (cc := cX9_wantLet) (nL := 4) (ret := none) (by decide) rfl (Nat.le_of_ble_eq_true rfl) ?_
  intro p e s m below meth c C hr ls hl
  have C : zz_C E RX9 cX9_wantLet 4 wsX9_wantLet p s m [.ref (E.1 + a0), .int x1, .int x2].toArray meth c := C
  have hl : lv_has ls 4 [(0, .ref (E.1 + a0)), (1, .int x1), (2, .int x2)] := hl
  unfold f_X9_wantLet
  refine zz_aload_n C dX9_wantLet_0 rfl (lv_at hl 0 rfl) ?_
  refine zz_callVv (As := []) (rest := []) C (m_X9_advance l E a0 h0 M) (cwV 0 C.1.2.2.2.2 gX9_wantLet_X9_advance rfl rfl rfl hdV_X9_advance ⟨Nat.le_of_ble_eq_true rfl, Nat.le_of_ble_eq_true rfl⟩) (zz_lt h0 (by decide)) (zz_c9 h0) rfl rfl hl.1 rfl (Nat.le_of_ble_eq_true rfl) dX9_wantLet_1 (fun _ M_1 => ?_)
  refine zz_aload_n C dX9_wantLet_4 rfl (lv_at hl 0 rfl) ?_
  refine zz_iconst (v := 0) C dX9_wantLet_5 (by decide) ?_
  refine zz_iload_n C dX9_wantLet_6 rfl (lv_at hl 2 rfl) ?_
  refine zz_callVi (As := [.int (0 : Int32), .int x2]) (rest := []) C (m_X9_wantNumber l E a0 (0 : Int32) x2 h0 M_1) (cwV 2 C.1.2.2.2.2 gX9_wantLet_X9_wantNumber rfl rfl rfl hdV_X9_wantNumber ⟨Nat.le_of_ble_eq_true rfl, Nat.le_of_ble_eq_true rfl⟩) (zz_lt h0 (by decide)) (zz_c9 h0) rfl rfl hl.1 rfl (Nat.le_of_ble_eq_true rfl) dX9_wantLet_7 (fun r_2 M_3 => ?_)
  refine zz_istored_n (lv' := [(3, .int r_2), (0, .ref (E.1 + a0)), (1, .int x1), (2, .int x2)]) C dX9_wantLet_10 rfl hl (by decide) rfl (fun ls hl => ?_)
  refine zz_aload_n C dX9_wantLet_11 rfl (lv_at hl 1 rfl) ?_
  refine zz_get C (zz_lt h0 (by decide)) (zz_c9 h0) rfl in_X9_wantLet_X9 12 (by decide) (List.mem_of_getElem? (i := 1) rfl) rfl dX9_wantLet_12 ?_
  refine zz_if_eq (tgt := 25) C dX9_wantLet_15 (by decide) (fun c_4 => ?_) (fun c_4 => ?_)
  · exact zz_vret C hr dX9_wantLet_25
  · refine zz_aload_n C dX9_wantLet_18 rfl (lv_at hl 1 rfl) ?_
    refine zz_get C (zz_lt h0 (by decide)) (zz_c9 h0) rfl in_X9_wantLet_X9 0 (by decide) (List.mem_of_getElem? (i := 2) rfl) rfl dX9_wantLet_19 ?_
    refine zz_iload_n C dX9_wantLet_22 rfl (lv_at hl 2 rfl) ?_
    refine zz_iload_n C dX9_wantLet_23 rfl (lv_at hl 0 rfl) ?_
    refine zz_iast C (zz_lt (zz_s9_0 h0) (by decide)) (fun _ => zz_c13 (zz_s9_0 h0)) dX9_wantLet_24 (fun M_5 => ?_)
    exact zz_vret C hr dX9_wantLet_25
-- X9_wantItem ('X9', 'wantItem', '()V')
theorem in_X9_wantItem_X9 : ∀ w ∈ u_ws RX9 TX9 20, w ∈ wsX9_wantItem := fun _ h => List.mem_cons_of_mem _ (List.mem_append_right _ h)
theorem hdV_X9_kindHere : yX9_kindHere.cls = RX9 ∧ yX9_kindHere.cls ≠ "java/lang/invoke/MethodHandle" ∧ yX9_kindHere.cls ≠ "java/lang/invoke/VarHandle" ∧ (parseMethodDescriptor yX9_kindHere.desc).map (fun d => d.parameters.length) = some 0 := by decide +kernel
theorem hdV_X9_wantCandle : yX9_wantCandle.cls = RX9 ∧ yX9_wantCandle.cls ≠ "java/lang/invoke/MethodHandle" ∧ yX9_wantCandle.cls ≠ "java/lang/invoke/VarHandle" ∧ (parseMethodDescriptor yX9_wantCandle.desc).map (fun d => d.parameters.length) = some 1 := by decide +kernel
theorem hdV_X9_wantDip : yX9_wantDip.cls = RX9 ∧ yX9_wantDip.cls ≠ "java/lang/invoke/MethodHandle" ∧ yX9_wantDip.cls ≠ "java/lang/invoke/VarHandle" ∧ (parseMethodDescriptor yX9_wantDip.desc).map (fun d => d.parameters.length) = some 0 := by decide +kernel
theorem hdV_X9_wantLet : yX9_wantLet.cls = RX9 ∧ yX9_wantLet.cls ≠ "java/lang/invoke/MethodHandle" ∧ yX9_wantLet.cls ≠ "java/lang/invoke/VarHandle" ∧ (parseMethodDescriptor yX9_wantLet.desc).map (fun d => d.parameters.length) = some 2 := by decide +kernel
theorem hdV_X9_wantVat : yX9_wantVat.cls = RX9 ∧ yX9_wantVat.cls ≠ "java/lang/invoke/MethodHandle" ∧ yX9_wantVat.cls ≠ "java/lang/invoke/VarHandle" ∧ (parseMethodDescriptor yX9_wantVat.desc).map (fun d => d.parameters.length) = some 0 := by decide +kernel
def f_X9_wantItem (a0 : Nat) (M : zz_M) : Option (Unit × zz_M) := zz_bd (f_X9_kindHere a0 M) (fun r_1 M_2 => (if r_1 < 0 then zz_bd (f_X9_isWord a0 (16085 : Int64) M_2) (fun r_4 M_5 => (if r_4 = 0 then zz_bd (f_X9_isWord a0 (3175 : Int64) M_5) (fun r_7 M_8 => (if r_7 = 0 then zz_bd (f_X9_isWord a0 (464053 : Int64) M_8) (fun r_10 M_11 => (if r_10 = 0 then zz_bd (f_X9_isWord a0 (1808912405 : Int64) M_11) (fun r_13 M_14 => (if r_13 = 0 then zz_w (zz_si M_14 a0 12 (0 : Int32)) (fun M_16 => some ((), M_16)) else zz_bd (f_X9_wantLet a0 (2 : Int32) (9 : Int32) M_14) (fun _ M_17 => some ((), M_17)))) else zz_bd (f_X9_wantLet a0 (1 : Int32) (9999 : Int32) M_11) (fun _ M_18 => some ((), M_18)))) else zz_bd (f_X9_wantDip a0 M_8) (fun _ M_19 => some ((), M_19)))) else zz_bd (f_X9_wantVat a0 M_5) (fun _ M_20 => some ((), M_20)))) else zz_bd (f_X9_kindHere a0 M_2) (fun r_21 M_22 => zz_bd (f_X9_wantCandle a0 r_21 M_22) (fun _ M_23 => some ((), M_23)))))
set_option maxRecDepth 100000 in
set_option maxHeartbeats 4000000 in
theorem m_X9_wantItem (l : Launch) (E : zz_E) (a0 : Nat) (h0 : zz_sh a0 = 9) (M : zz_M) : zz_Met (zz_pv E) l yX9_wantItem wsX9_wantItem 7 E [.ref (E.1 + a0)] M (f_X9_wantItem a0 M) := by
  refine zz_met (cc := cX9_wantItem) (nL := 1) (ret := none) (by decide) rfl (Nat.le_of_ble_eq_true rfl) ?_
  intro p e s m below meth c C hr ls hl
  have C : zz_C E RX9 cX9_wantItem 1 wsX9_wantItem p s m [.ref (E.1 + a0)].toArray meth c := C
  have hl : lv_has ls 1 [(0, .ref (E.1 + a0))] := hl
  unfold f_X9_wantItem
  refine zz_aload_n C dX9_wantItem_0 rfl (lv_at hl 0 rfl) ?_
  refine zz_callVi (As := []) (rest := []) C (m_X9_kindHere l E a0 h0 M) (cwV 0 C.1.2.2.2.2 gX9_wantItem_X9_kindHere rfl rfl rfl hdV_X9_kindHere ⟨Nat.le_of_ble_eq_true rfl, Nat.le_of_ble_eq_true rfl⟩) (zz_lt h0 (by decide)) (zz_c9 h0) rfl rfl hl.1 rfl (Nat.le_of_ble_eq_true rfl) dX9_wantItem_1 (fun r_1 M_2 => ?_)
  refine zz_if_lt (tgt := 18) C dX9_wantItem_4 (by decide) (fun c_3 => ?_) (fun c_3 => ?_)
  · refine zz_aload_n C dX9_wantItem_18 rfl (lv_at hl 0 rfl) ?_
    refine zz_ldc2 (v := 16085) C (List.mem_of_getElem? (i := 1) rfl) dX9_wantItem_19 ?_
    refine zz_callVi (As := [.long (16085 : Int64)]) (rest := []) C (m_X9_isWord l E a0 (16085 : Int64) h0 M_2) (cwV 1 C.1.2.2.2.2 gX9_wantItem_X9_isWord rfl rfl rfl hdV_X9_isWord ⟨Nat.le_of_ble_eq_true rfl, Nat.le_of_ble_eq_true rfl⟩) (zz_lt h0 (by decide)) (zz_c9 h0) rfl rfl hl.1 rfl (Nat.le_of_ble_eq_true rfl) dX9_wantItem_22 (fun r_4 M_5 => ?_)
    refine zz_if_eq (tgt := 35) C dX9_wantItem_25 (by decide) (fun c_6 => ?_) (fun c_6 => ?_)
    · refine zz_aload_n C dX9_wantItem_35 rfl (lv_at hl 0 rfl) ?_
      refine zz_ldc2 (v := 3175) C (List.mem_of_getElem? (i := 2) rfl) dX9_wantItem_36 ?_
      refine zz_callVi (As := [.long (3175 : Int64)]) (rest := []) C (m_X9_isWord l E a0 (3175 : Int64) h0 M_5) (cwV 1 C.1.2.2.2.2 gX9_wantItem_X9_isWord rfl rfl rfl hdV_X9_isWord ⟨Nat.le_of_ble_eq_true rfl, Nat.le_of_ble_eq_true rfl⟩) (zz_lt h0 (by decide)) (zz_c9 h0) rfl rfl hl.1 rfl (Nat.le_of_ble_eq_true rfl) dX9_wantItem_39 (fun r_7 M_8 => ?_)
      refine zz_if_eq (tgt := 52) C dX9_wantItem_42 (by decide) (fun c_9 => ?_) (fun c_9 => ?_)
      · refine zz_aload_n C dX9_wantItem_52 rfl (lv_at hl 0 rfl) ?_
        refine zz_ldc2 (v := 464053) C (List.mem_of_getElem? (i := 3) rfl) dX9_wantItem_53 ?_
        refine zz_callVi (As := [.long (464053 : Int64)]) (rest := []) C (m_X9_isWord l E a0 (464053 : Int64) h0 M_8) (cwV 1 C.1.2.2.2.2 gX9_wantItem_X9_isWord rfl rfl rfl hdV_X9_isWord ⟨Nat.le_of_ble_eq_true rfl, Nat.le_of_ble_eq_true rfl⟩) (zz_lt h0 (by decide)) (zz_c9 h0) rfl rfl hl.1 rfl (Nat.le_of_ble_eq_true rfl) dX9_wantItem_56 (fun r_10 M_11 => ?_)
        refine zz_if_eq (tgt := 73) C dX9_wantItem_59 (by decide) (fun c_12 => ?_) (fun c_12 => ?_)
        · refine zz_aload_n C dX9_wantItem_73 rfl (lv_at hl 0 rfl) ?_
          refine zz_ldc2 (v := 1808912405) C (List.mem_of_getElem? (i := 4) rfl) dX9_wantItem_74 ?_
          refine zz_callVi (As := [.long (1808912405 : Int64)]) (rest := []) C (m_X9_isWord l E a0 (1808912405 : Int64) h0 M_11) (cwV 1 C.1.2.2.2.2 gX9_wantItem_X9_isWord rfl rfl rfl hdV_X9_isWord ⟨Nat.le_of_ble_eq_true rfl, Nat.le_of_ble_eq_true rfl⟩) (zz_lt h0 (by decide)) (zz_c9 h0) rfl rfl hl.1 rfl (Nat.le_of_ble_eq_true rfl) dX9_wantItem_77 (fun r_13 M_14 => ?_)
          refine zz_if_eq (tgt := 93) C dX9_wantItem_80 (by decide) (fun c_15 => ?_) (fun c_15 => ?_)
          · refine zz_aload_n C dX9_wantItem_93 rfl (lv_at hl 0 rfl) ?_
            refine zz_iconst (v := 0) C dX9_wantItem_94 (by decide) ?_
            refine zz_put (M1 := zz_si M_14 a0 12 (0 : Int32)) C (zz_lt h0 (by decide)) (zz_c9 h0) rfl in_X9_wantItem_X9 tyX9 tyX9_ok nmX9 12 (by decide) (List.mem_of_getElem? (i := 5) rfl) rfl (zz_nb (v := (0 : Int32)) rfl) (zz_fb (v := (0 : Int32)) rfl) (Nat.le_of_ble_eq_true rfl) (zz_p9_12 h0) zz_cell_si dX9_wantItem_95 (fun M_16 => ?_)
            exact zz_vret C hr dX9_wantItem_98
          · refine zz_aload_n C dX9_wantItem_83 rfl (lv_at hl 0 rfl) ?_
            refine zz_iconst (v := 2) C dX9_wantItem_84 (by decide) ?_
            refine zz_bipush (v := 9) C dX9_wantItem_85 (by decide) ?_
            refine zz_callVv (As := [.int (2 : Int32), .int (9 : Int32)]) (rest := []) C (m_X9_wantLet l E a0 (2 : Int32) (9 : Int32) h0 M_14) (cwV 2 C.1.2.2.2.2 gX9_wantItem_X9_wantLet rfl rfl rfl hdV_X9_wantLet ⟨Nat.le_of_ble_eq_true rfl, Nat.le_of_ble_eq_true rfl⟩) (zz_lt h0 (by decide)) (zz_c9 h0) rfl rfl hl.1 rfl (Nat.le_of_ble_eq_true rfl) dX9_wantItem_87 (fun _ M_17 => ?_)
            refine zz_goto (tgt := 98) C dX9_wantItem_90 (by decide) ?_
            exact zz_vret C hr dX9_wantItem_98
        · refine zz_aload_n C dX9_wantItem_62 rfl (lv_at hl 0 rfl) ?_
          refine zz_iconst (v := 1) C dX9_wantItem_63 (by decide) ?_
          refine zz_sipush (v := 9999) C dX9_wantItem_64 (by decide) ?_
          refine zz_callVv (As := [.int (1 : Int32), .int (9999 : Int32)]) (rest := []) C (m_X9_wantLet l E a0 (1 : Int32) (9999 : Int32) h0 M_11) (cwV 2 C.1.2.2.2.2 gX9_wantItem_X9_wantLet rfl rfl rfl hdV_X9_wantLet ⟨Nat.le_of_ble_eq_true rfl, Nat.le_of_ble_eq_true rfl⟩) (zz_lt h0 (by decide)) (zz_c9 h0) rfl rfl hl.1 rfl (Nat.le_of_ble_eq_true rfl) dX9_wantItem_67 (fun _ M_18 => ?_)
          refine zz_goto (tgt := 98) C dX9_wantItem_70 (by decide) ?_
          exact zz_vret C hr dX9_wantItem_98
      · refine zz_aload_n C dX9_wantItem_45 rfl (lv_at hl 0 rfl) ?_
        refine zz_callVv (As := []) (rest := []) C (m_X9_wantDip l E a0 h0 M_8) (cwV 0 C.1.2.2.2.2 gX9_wantItem_X9_wantDip rfl rfl rfl hdV_X9_wantDip ⟨Nat.le_of_ble_eq_true rfl, Nat.le_of_ble_eq_true rfl⟩) (zz_lt h0 (by decide)) (zz_c9 h0) rfl rfl hl.1 rfl (Nat.le_of_ble_eq_true rfl) dX9_wantItem_46 (fun _ M_19 => ?_)
        refine zz_goto (tgt := 98) C dX9_wantItem_49 (by decide) ?_
        exact zz_vret C hr dX9_wantItem_98
    · refine zz_aload_n C dX9_wantItem_28 rfl (lv_at hl 0 rfl) ?_
      refine zz_callVv (As := []) (rest := []) C (m_X9_wantVat l E a0 h0 M_5) (cwV 0 C.1.2.2.2.2 gX9_wantItem_X9_wantVat rfl rfl rfl hdV_X9_wantVat ⟨Nat.le_of_ble_eq_true rfl, Nat.le_of_ble_eq_true rfl⟩) (zz_lt h0 (by decide)) (zz_c9 h0) rfl rfl hl.1 rfl (Nat.le_of_ble_eq_true rfl) dX9_wantItem_29 (fun _ M_20 => ?_)
      refine zz_goto (tgt := 98) C dX9_wantItem_32 (by decide) ?_
      exact zz_vret C hr dX9_wantItem_98
  · refine zz_aload_n C dX9_wantItem_7 rfl (lv_at hl 0 rfl) ?_
    refine zz_aload_n C dX9_wantItem_8 rfl (lv_at hl 0 rfl) ?_
    refine zz_callVi (As := []) (rest := [.ref (E.1 + a0)]) C (m_X9_kindHere l E a0 h0 M_2) (cwV 0 C.1.2.2.2.2 gX9_wantItem_X9_kindHere rfl rfl rfl hdV_X9_kindHere ⟨Nat.le_of_ble_eq_true rfl, Nat.le_of_ble_eq_true rfl⟩) (zz_lt h0 (by decide)) (zz_c9 h0) rfl rfl hl.1 rfl (Nat.le_of_ble_eq_true rfl) dX9_wantItem_9 (fun r_21 M_22 => ?_)
    refine zz_callVv (As := [.int r_21]) (rest := []) C (m_X9_wantCandle l E a0 r_21 h0 M_22) (cwV 1 C.1.2.2.2.2 gX9_wantItem_X9_wantCandle rfl rfl rfl hdV_X9_wantCandle ⟨Nat.le_of_ble_eq_true rfl, Nat.le_of_ble_eq_true rfl⟩) (zz_lt h0 (by decide)) (zz_c9 h0) rfl rfl hl.1 rfl (Nat.le_of_ble_eq_true rfl) dX9_wantItem_12 (fun _ M_23 => ?_)
    refine zz_goto (tgt := 98) C dX9_wantItem_15 (by decide) ?_
    exact zz_vret C hr dX9_wantItem_98
-- X9_text ('X9', 'text', '()I')
theorem in_X9_text_X9 : ∀ w ∈ u_ws RX9 TX9 20, w ∈ wsX9_text := fun _ h => List.mem_cons_of_mem _ (List.mem_append_right _ h)
theorem hdV_X9_wantItem : yX9_wantItem.cls = RX9 ∧ yX9_wantItem.cls ≠ "java/lang/invoke/MethodHandle" ∧ yX9_wantItem.cls ≠ "java/lang/invoke/VarHandle" ∧ (parseMethodDescriptor yX9_wantItem.desc).map (fun d => d.parameters.length) = some 0 := by decide +kernel
def b_X9_text_91 (a0 : Nat) (x1 : Int32) (st0 : Int32) (rt1 : Nat) (M : zz_M) : Option (Int32 × zz_M) := (if zz_bit st0 = true then zz_w (zz_si M rt1 12 st0) (fun M_13 => zz_w (zz_si M_13 a0 6 (0 : Int32)) (fun M_14 => (if (zz_i M_14 a0 12) = 0 then zz_bd (f_X9_moveAll a0 (0 : Int32) 140 M_14) (fun _ M_16 => some (((-1 : Int32) - (zz_i M_16 a0 8)), M_16)) else some (x1, M_14)))) else none)
set_option maxRecDepth 100000 in
set_option maxHeartbeats 4000000 in
theorem wb_X9_text_91 {p : Program} {l : Launch} {e : Env} {s : State} {m : MethodId} {args : Array Value} {below : List Frame} {meth : Method} {c : Code} {E : zz_E} (C : zz_C E RX9 cX9_text 3 wsX9_text p s m args meth c) (hr : meth.sig.returnType = (some .int)) : ∀ (a0 : Nat) (x1 : Int32) (st0 : Int32) (rt1 : Nat) (ha0 : zz_sh a0 = 9) (hrt1 : zz_sh rt1 = 9) (M : zz_M) (ls : Array Slot), lv_has ls 3 [(0, .ref (E.1 + a0)), (1, .int x1)] → zz_Z E p l e (zz_rm 8) s m args below meth c (zz_Q (zz_pi E) E below args s) (b_X9_text_91 a0 x1 st0 rt1 M) M (F0 m 91 ls [.int st0, .ref (E.1 + rt1)]) := by
  intro a0 x1 st0 rt1 ha0 hrt1 M ls hl
  unfold b_X9_text_91
  refine zz_guard (fun b_17 => ?_)
  refine zz_put (M1 := zz_si M rt1 12 st0) C (zz_lt hrt1 (by decide)) (zz_c9 hrt1) rfl in_X9_text_X9 tyX9 tyX9_ok nmX9 12 (by decide) (List.mem_of_getElem? (i := 3) rfl) rfl (zz_nb b_17) (zz_fb b_17) (Nat.le_of_ble_eq_true rfl) (zz_p9_12 hrt1) zz_cell_si dX9_text_91 (fun M_13 => ?_)
  refine zz_aload_n C dX9_text_94 rfl (lv_at hl 0 rfl) ?_
  refine zz_iconst (v := 0) C dX9_text_95 (by decide) ?_
  refine zz_put (M1 := zz_si M_13 a0 6 (0 : Int32)) C (zz_lt ha0 (by decide)) (zz_c9 ha0) rfl in_X9_text_X9 tyX9 tyX9_ok nmX9 6 (by decide) (List.mem_of_getElem? (i := 6) rfl) rfl rfl rfl (Nat.le_of_ble_eq_true rfl) (zz_p9_6 ha0) zz_cell_si dX9_text_96 (fun M_14 => ?_)
  refine zz_aload_n C dX9_text_99 rfl (lv_at hl 0 rfl) ?_
  refine zz_get C (zz_lt ha0 (by decide)) (zz_c9 ha0) rfl in_X9_text_X9 12 (by decide) (List.mem_of_getElem? (i := 3) rfl) rfl dX9_text_100 ?_
  refine zz_if_ne (tgt := 122) C dX9_text_103 (by decide) (fun c_15 => ?_) (fun c_15 => ?_)
  · refine zz_aload_n C dX9_text_106 rfl (lv_at hl 0 rfl) ?_
    refine zz_iconst (v := 0) C dX9_text_107 (by decide) ?_
    refine zz_aload_n C dX9_text_108 rfl (lv_at hl 0 rfl) ?_
    refine zz_get C (zz_lt ha0 (by decide)) (zz_c9 ha0) rfl in_X9_text_X9 18 (by decide) (List.mem_of_getElem? (i := 1) rfl) rfl dX9_text_109 ?_
    refine zz_callVv (As := [.int (0 : Int32), .ref (E.1 + 140)]) (rest := []) C (m_X9_moveAll l E a0 (0 : Int32) 140 ha0 (zz_s9_18 ha0) M_14) (cwV 2 C.1.2.2.2.2 gX9_text_X9_moveAll rfl rfl rfl hdV_X9_moveAll ⟨Nat.le_of_ble_eq_true rfl, Nat.le_of_ble_eq_true rfl⟩) (zz_lt ha0 (by decide)) (zz_c9 ha0) rfl rfl hl.1 rfl (Nat.le_of_ble_eq_true rfl) dX9_text_112 (fun _ M_16 => ?_)
    refine zz_iconst (v := -1) C dX9_text_115 (by decide) ?_
    refine zz_aload_n C dX9_text_116 rfl (lv_at hl 0 rfl) ?_
    refine zz_get C (zz_lt ha0 (by decide)) (zz_c9 ha0) rfl in_X9_text_X9 8 (by decide) (List.mem_of_getElem? (i := 7) rfl) rfl dX9_text_117 ?_
    refine zz_isub C dX9_text_120 ?_
    exact zz_iret C hr dX9_text_121
  · refine zz_iload_n C dX9_text_122 rfl (lv_at hl 1 rfl) ?_
    exact zz_iret C hr dX9_text_123
def b_X9_text_67 (k23 : Nat → Int32 → Int32 → zz_M → Option (Int32 × zz_M)) (a0 : Nat) (x1 : Int32) (st0 : Int32) (M : zz_M) : Option (Int32 × zz_M) := k23 a0 x1 st0 M
set_option maxRecDepth 100000 in
set_option maxHeartbeats 4000000 in
theorem wb_X9_text_67 {p : Program} {l : Launch} {e : Env} {s : State} {m : MethodId} {args : Array Value} {below : List Frame} {meth : Method} {c : Code} {E : zz_E} (C : zz_C E RX9 cX9_text 3 wsX9_text p s m args meth c) (hr : meth.sig.returnType = (some .int)) {k23 : Nat → Int32 → Int32 → zz_M → Option (Int32 × zz_M)} (hk23 : ∀ (a0 : Nat) (x1 : Int32) (x2 : Int32) (ha0 : zz_sh a0 = 9) (M : zz_M) (ls : Array Slot), lv_has ls 3 [(0, .ref (E.1 + a0)), (1, .int x1), (2, .int x2)] → zz_Z E p l e (zz_rm 8) s m args below meth c (zz_Q (zz_pi E) E below args s) (k23 a0 x1 x2 M) M (F0 m 23 ls [])) : ∀ (a0 : Nat) (x1 : Int32) (st0 : Int32) (ha0 : zz_sh a0 = 9) (M : zz_M) (ls : Array Slot), lv_has ls 3 [(0, .ref (E.1 + a0)), (1, .int x1)] → zz_Z E p l e (zz_rm 8) s m args below meth c (zz_Q (zz_pi E) E below args s) (b_X9_text_67 k23 a0 x1 st0 M) M (F0 m 67 ls [.int st0]) := by
  intro a0 x1 st0 ha0 M ls hl
  unfold b_X9_text_67
  refine zz_istored_n (lv' := [(2, .int st0), (0, .ref (E.1 + a0)), (1, .int x1)]) C dX9_text_67 rfl hl (by decide) rfl (fun ls hl => ?_)
  refine zz_goto (tgt := 23) C dX9_text_68 (by decide) ?_
  exact hk23 a0 x1 st0 ha0 M ls (lv_sub hl [1, 2, 0] rfl)
def b_X9_text_66 (k23 : Nat → Int32 → Int32 → zz_M → Option (Int32 × zz_M)) (a0 : Nat) (x1 : Int32) (M : zz_M) : Option (Int32 × zz_M) := b_X9_text_67 k23 a0 x1 (0 : Int32) M
set_option maxRecDepth 100000 in
set_option maxHeartbeats 4000000 in
theorem wb_X9_text_66 {p : Program} {l : Launch} {e : Env} {s : State} {m : MethodId} {args : Array Value} {below : List Frame} {meth : Method} {c : Code} {E : zz_E} (C : zz_C E RX9 cX9_text 3 wsX9_text p s m args meth c) (hr : meth.sig.returnType = (some .int)) {k23 : Nat → Int32 → Int32 → zz_M → Option (Int32 × zz_M)} (hk23 : ∀ (a0 : Nat) (x1 : Int32) (x2 : Int32) (ha0 : zz_sh a0 = 9) (M : zz_M) (ls : Array Slot), lv_has ls 3 [(0, .ref (E.1 + a0)), (1, .int x1), (2, .int x2)] → zz_Z E p l e (zz_rm 8) s m args below meth c (zz_Q (zz_pi E) E below args s) (k23 a0 x1 x2 M) M (F0 m 23 ls [])) : ∀ (a0 : Nat) (x1 : Int32) (ha0 : zz_sh a0 = 9) (M : zz_M) (ls : Array Slot), lv_has ls 3 [(0, .ref (E.1 + a0)), (1, .int x1)] → zz_Z E p l e (zz_rm 8) s m args below meth c (zz_Q (zz_pi E) E below args s) (b_X9_text_66 k23 a0 x1 M) M (F0 m 66 ls []) := by
  intro a0 x1 ha0 M ls hl
  unfold b_X9_text_66
  refine zz_iconst (v := 0) C dX9_text_66 (by decide) ?_
  exact wb_X9_text_67 C hr hk23 a0 x1 (0 : Int32) ha0 M ls (lv_sub hl [0, 1] rfl)
def b_X9_text_90 (a0 : Nat) (x1 : Int32) (rt0 : Nat) (M : zz_M) : Option (Int32 × zz_M) := b_X9_text_91  a0 x1 (0 : Int32) rt0 M
set_option maxRecDepth 100000 in
set_option maxHeartbeats 4000000 in
theorem wb_X9_text_90 {p : Program} {l : Launch} {e : Env} {s : State} {m : MethodId} {args : Array Value} {below : List Frame} {meth : Method} {c : Code} {E : zz_E} (C : zz_C E RX9 cX9_text 3 wsX9_text p s m args meth c) (hr : meth.sig.returnType = (some .int)) : ∀ (a0 : Nat) (x1 : Int32) (rt0 : Nat) (ha0 : zz_sh a0 = 9) (hrt0 : zz_sh rt0 = 9) (M : zz_M) (ls : Array Slot), lv_has ls 3 [(0, .ref (E.1 + a0)), (1, .int x1)] → zz_Z E p l e (zz_rm 8) s m args below meth c (zz_Q (zz_pi E) E below args s) (b_X9_text_90 a0 x1 rt0 M) M (F0 m 90 ls [.ref (E.1 + rt0)]) := by
  intro a0 x1 rt0 ha0 hrt0 M ls hl
  unfold b_X9_text_90
  refine zz_iconst (v := 0) C dX9_text_90 (by decide) ?_
  exact wb_X9_text_91 C hr  a0 x1 (0 : Int32) rt0 ha0 hrt0 M ls (lv_sub hl [0, 1] rfl)
def b_X9_text_23 : Nat → Nat → Int32 → Int32 → zz_M → Option (Int32 × zz_M)
  | 0 => fun _ _ _ _ => none
  | n + 1 => fun a0 x1 x2 M => (if x2 = 0 then (if (zz_i M a0 12) = 0 then b_X9_text_90  a0 x1 a0 M else (if (zz_i M a0 7) = 0 then b_X9_text_91  a0 x1 (1 : Int32) a0 M else b_X9_text_90  a0 x1 a0 M)) else zz_bd (f_X9_advance a0 M) (fun _ M_7 => zz_bd (f_X9_wantItem a0 M_7) (fun _ M_8 => zz_w (x1 + (1 : Int32)) (fun x1_9 => (if (zz_i M_8 a0 12) = 0 then b_X9_text_66 (b_X9_text_23 n) a0 x1_9 M_8 else (if (zz_i M_8 a0 7) = (3 : Int32) then (if (zz_i M_8 a0 11) = (59 : Int32) then b_X9_text_67 (b_X9_text_23 n) a0 x1_9 (1 : Int32) M_8 else b_X9_text_66 (b_X9_text_23 n) a0 x1_9 M_8) else b_X9_text_66 (b_X9_text_23 n) a0 x1_9 M_8))))))
set_option maxRecDepth 100000 in
set_option maxHeartbeats 4000000 in
theorem wb_X9_text_23 {p : Program} {l : Launch} {e : Env} {s : State} {m : MethodId} {args : Array Value} {below : List Frame} {meth : Method} {c : Code} {E : zz_E} (C : zz_C E RX9 cX9_text 3 wsX9_text p s m args meth c) (hr : meth.sig.returnType = (some .int)) : ∀ (n : Nat) (a0 : Nat) (x1 : Int32) (x2 : Int32) (ha0 : zz_sh a0 = 9) (M : zz_M) (ls : Array Slot), lv_has ls 3 [(0, .ref (E.1 + a0)), (1, .int x1), (2, .int x2)] → zz_Z E p l e (zz_rm 8) s m args below meth c (zz_Q (zz_pi E) E below args s) (b_X9_text_23 n a0 x1 x2 M) M (F0 m 23 ls []) := by
  intro n
  induction n with
  | zero => intro a0 x1 x2 ha0 M ls hl; exact zz_none
  | succ n ih =>
    intro a0 x1 x2 ha0 M ls hl
    rw [b_X9_text_23]
    refine zz_iload_n C dX9_text_23 rfl (lv_at hl 2 rfl) ?_
    refine zz_if_eq (tgt := 71) C dX9_text_24 (by decide) (fun c_4 => ?_) (fun c_4 => ?_)
    · refine zz_aload_n C dX9_text_71 rfl (lv_at hl 0 rfl) ?_
      refine zz_aload_n C dX9_text_72 rfl (lv_at hl 0 rfl) ?_
      refine zz_get C (zz_lt ha0 (by decide)) (zz_c9 ha0) rfl in_X9_text_X9 12 (by decide) (List.mem_of_getElem? (i := 3) rfl) rfl dX9_text_73 ?_
      refine zz_if_eq (tgt := 90) C dX9_text_76 (by decide) (fun c_5 => ?_) (fun c_5 => ?_)
      · exact wb_X9_text_90 C hr  a0 x1 a0 ha0 ha0 M ls (lv_sub hl [0, 1] rfl)
      · refine zz_aload_n C dX9_text_79 rfl (lv_at hl 0 rfl) ?_
        refine zz_get C (zz_lt ha0 (by decide)) (zz_c9 ha0) rfl in_X9_text_X9 7 (by decide) (List.mem_of_getElem? (i := 4) rfl) rfl dX9_text_80 ?_
        refine zz_if_ne (tgt := 90) C dX9_text_83 (by decide) (fun c_6 => ?_) (fun c_6 => ?_)
        · refine zz_iconst (v := 1) C dX9_text_86 (by decide) ?_
          refine zz_goto (tgt := 91) C dX9_text_87 (by decide) ?_
          exact wb_X9_text_91 C hr  a0 x1 (1 : Int32) a0 ha0 ha0 M ls (lv_sub hl [0, 1] rfl)
        · exact wb_X9_text_90 C hr  a0 x1 a0 ha0 ha0 M ls (lv_sub hl [0, 1] rfl)
    · refine zz_aload_n C dX9_text_27 rfl (lv_at hl 0 rfl) ?_
      refine zz_callVv (As := []) (rest := []) C (m_X9_advance l E a0 ha0 M) (cwV 0 C.1.2.2.2.2 gX9_text_X9_advance rfl rfl rfl hdV_X9_advance ⟨Nat.le_of_ble_eq_true rfl, Nat.le_of_ble_eq_true rfl⟩) (zz_lt ha0 (by decide)) (zz_c9 ha0) rfl rfl hl.1 rfl (Nat.le_of_ble_eq_true rfl) dX9_text_28 (fun _ M_7 => ?_)
      refine zz_aload_n C dX9_text_31 rfl (lv_at hl 0 rfl) ?_
      refine zz_callVv (As := []) (rest := []) C (m_X9_wantItem l E a0 ha0 M_7) (cwV 0 C.1.2.2.2.2 gX9_text_X9_wantItem rfl rfl rfl hdV_X9_wantItem ⟨Nat.le_of_ble_eq_true rfl, Nat.le_of_ble_eq_true rfl⟩) (zz_lt ha0 (by decide)) (zz_c9 ha0) rfl rfl hl.1 rfl (Nat.le_of_ble_eq_true rfl) dX9_text_32 (fun _ M_8 => ?_)
      refine zz_iinc (k9 := 1) (d := 1) C (fun x1_9 => [(1, .int x1_9), (0, .ref (E.1 + a0)), (2, .int x2)]) dX9_text_35 hl rfl (by decide) (by decide) (fun _ => rfl) (fun x1_9 ls hl => ?_)
      refine zz_aload_n C dX9_text_38 rfl (lv_at hl 1 rfl) ?_
      refine zz_get C (zz_lt ha0 (by decide)) (zz_c9 ha0) rfl in_X9_text_X9 12 (by decide) (List.mem_of_getElem? (i := 3) rfl) rfl dX9_text_39 ?_
      refine zz_if_eq (tgt := 66) C dX9_text_42 (by decide) (fun c_10 => ?_) (fun c_10 => ?_)
      · exact wb_X9_text_66 C hr ih a0 x1_9 ha0 M_8 ls (lv_sub hl [1, 0] rfl)
      · refine zz_aload_n C dX9_text_45 rfl (lv_at hl 1 rfl) ?_
        refine zz_get C (zz_lt ha0 (by decide)) (zz_c9 ha0) rfl in_X9_text_X9 7 (by decide) (List.mem_of_getElem? (i := 4) rfl) rfl dX9_text_46 ?_
        refine zz_iconst (v := 3) C dX9_text_49 (by decide) ?_
        refine zz_icmp_ne (tgt := 66) C dX9_text_50 (by decide) (fun c_11 => ?_) (fun c_11 => ?_)
        · refine zz_aload_n C dX9_text_53 rfl (lv_at hl 1 rfl) ?_
          refine zz_get C (zz_lt ha0 (by decide)) (zz_c9 ha0) rfl in_X9_text_X9 11 (by decide) (List.mem_of_getElem? (i := 5) rfl) rfl dX9_text_54 ?_
          refine zz_bipush (v := 59) C dX9_text_57 (by decide) ?_
          refine zz_icmp_ne (tgt := 66) C dX9_text_59 (by decide) (fun c_12 => ?_) (fun c_12 => ?_)
          · refine zz_iconst (v := 1) C dX9_text_62 (by decide) ?_
            refine zz_goto (tgt := 67) C dX9_text_63 (by decide) ?_
            exact wb_X9_text_67 C hr ih a0 x1_9 (1 : Int32) ha0 M_8 ls (lv_sub hl [1, 0] rfl)
          · exact wb_X9_text_66 C hr ih a0 x1_9 ha0 M_8 ls (lv_sub hl [1, 0] rfl)
        · exact wb_X9_text_66 C hr ih a0 x1_9 ha0 M_8 ls (lv_sub hl [1, 0] rfl)
def f_X9_text (a0 : Nat) (M : zz_M) : Option (Int32 × zz_M) := zz_bd (f_X9_moveAll a0 (1 : Int32) 140 M) (fun _ M_1 => zz_w (zz_si M_1 a0 9 (0 : Int32)) (fun M_2 => zz_w (zz_si M_2 a0 12 (1 : Int32)) (fun M_3 => b_X9_text_23  zz_fuel a0 (0 : Int32) (1 : Int32) M_3)))
set_option maxRecDepth 100000 in
set_option maxHeartbeats 4000000 in
theorem m_X9_text (l : Launch) (E : zz_E) (a0 : Nat) (h0 : zz_sh a0 = 9) (M : zz_M) : zz_Met (zz_pi E) l yX9_text wsX9_text 8 E [.ref (E.1 + a0)] M (f_X9_text a0 M) := by
  refine zz_met (cc := cX9_text) (nL := 3) (ret := (some .int)) (by decide) rfl (Nat.le_of_ble_eq_true rfl) ?_
  intro p e s m below meth c C hr ls hl
  have C : zz_C E RX9 cX9_text 3 wsX9_text p s m [.ref (E.1 + a0)].toArray meth c := C
  have hl : lv_has ls 3 [(0, .ref (E.1 + a0))] := hl
  unfold f_X9_text
  refine zz_aload_n C dX9_text_0 rfl (lv_at hl 0 rfl) ?_
  refine zz_iconst (v := 1) C dX9_text_1 (by decide) ?_
  refine zz_aload_n C dX9_text_2 rfl (lv_at hl 0 rfl) ?_
  refine zz_get C (zz_lt h0 (by decide)) (zz_c9 h0) rfl in_X9_text_X9 18 (by decide) (List.mem_of_getElem? (i := 1) rfl) rfl dX9_text_3 ?_
  refine zz_callVv (As := [.int (1 : Int32), .ref (E.1 + 140)]) (rest := []) C (m_X9_moveAll l E a0 (1 : Int32) 140 h0 (zz_s9_18 h0) M) (cwV 2 C.1.2.2.2.2 gX9_text_X9_moveAll rfl rfl rfl hdV_X9_moveAll ⟨Nat.le_of_ble_eq_true rfl, Nat.le_of_ble_eq_true rfl⟩) (zz_lt h0 (by decide)) (zz_c9 h0) rfl rfl hl.1 rfl (Nat.le_of_ble_eq_true rfl) dX9_text_6 (fun _ M_1 => ?_)
  refine zz_aload_n C dX9_text_9 rfl (lv_at hl 0 rfl) ?_
  refine zz_iconst (v := 0) C dX9_text_10 (by decide) ?_
  refine zz_put (M1 := zz_si M_1 a0 9 (0 : Int32)) C (zz_lt h0 (by decide)) (zz_c9 h0) rfl in_X9_text_X9 tyX9 tyX9_ok nmX9 9 (by decide) (List.mem_of_getElem? (i := 2) rfl) rfl rfl rfl (Nat.le_of_ble_eq_true rfl) (zz_p9_9 h0) zz_cell_si dX9_text_11 (fun M_2 => ?_)
  refine zz_aload_n C dX9_text_14 rfl (lv_at hl 0 rfl) ?_
  refine zz_iconst (v := 1) C dX9_text_15 (by decide) ?_
  refine zz_put (M1 := zz_si M_2 a0 12 (1 : Int32)) C (zz_lt h0 (by decide)) (zz_c9 h0) rfl in_X9_text_X9 tyX9 tyX9_ok nmX9 12 (by decide) (List.mem_of_getElem? (i := 3) rfl) rfl (zz_nb (v := (1 : Int32)) rfl) (zz_fb (v := (1 : Int32)) rfl) (Nat.le_of_ble_eq_true rfl) (zz_p9_12 h0) zz_cell_si dX9_text_16 (fun M_3 => ?_)
  refine zz_iconst (v := 0) C dX9_text_19 (by decide) ?_
  refine zz_istored_n (lv' := [(1, .int (0 : Int32)), (0, .ref (E.1 + a0))]) C dX9_text_20 rfl hl (by decide) rfl (fun ls hl => ?_)
  refine zz_iconst (v := 1) C dX9_text_21 (by decide) ?_
  refine zz_istored_n (lv' := [(2, .int (1 : Int32)), (1, .int (0 : Int32)), (0, .ref (E.1 + a0))]) C dX9_text_22 rfl hl (by decide) rfl (fun ls hl => ?_)
  exact wb_X9_text_23 C hr  zz_fuel a0 (0 : Int32) (1 : Int32) h0 M_3 ls (lv_sub hl [2, 1, 0] rfl)
