-- X7_become ('X7', 'become', '(LFortyDips$Vats;)V')
theorem in_X7_become_X7 : ∀ w ∈ u_ws RX7 TX7 4, w ∈ wsX7_become := fun _ h => List.mem_cons_of_mem _ (List.mem_append_left _ (List.mem_append_right _ h))
theorem hdV_X6_become : yX6_become.cls = RX6 ∧ yX6_become.cls ≠ "java/lang/invoke/MethodHandle" ∧ yX6_become.cls ≠ "java/lang/invoke/VarHandle" ∧ (parseMethodDescriptor yX6_become.desc).map (fun d => d.parameters.length) = some 1 := by decide +kernel
def b_X7_become_2 : Nat → Nat → Nat → Int32 → zz_M → Option (Unit × zz_M)
  | 0 => fun _ _ _ _ => none
  | n + 1 => fun a0 a1 x2 M => (if (4 : Int32) ≤ x2 then zz_w (zz_si M a0 1 (zz_i M a1 1)) (fun M_2 => zz_w (zz_si M_2 a0 2 (zz_i M_2 a1 2)) (fun M_3 => zz_w (zz_si M_3 a0 3 (zz_i M_3 a1 3)) (fun M_4 => some ((), M_4)))) else (if zz_in x2 4 = true then (if zz_in x2 4 = true then zz_bd (f_X6_become ((a0 + 1) + 1 + zz_n x2) ((a1 + 1) + 1 + zz_n x2) M) (fun _ M_7 => zz_w (x2 + (1 : Int32)) (fun x2_8 => (b_X7_become_2 n) a0 a1 x2_8 M_7)) else none) else none))
set_option maxRecDepth 100000 in
set_option maxHeartbeats 4000000 in
theorem wb_X7_become_2 {p : Program} {l : Launch} {e : Env} {s : State} {m : MethodId} {args : Array Value} {below : List Frame} {meth : Method} {c : Code} {E : zz_E} (C : zz_C E RX7 cX7_become 3 wsX7_become p s m args meth c) (hr : meth.sig.returnType = none) : ∀ (n : Nat) (a0 : Nat) (a1 : Nat) (x2 : Int32) (ha0 : zz_sh a0 = 7) (ha1 : zz_sh a1 = 7) (M : zz_M) (ls : Array Slot), lv_has ls 3 [(0, .ref (E.1 + a0)), (1, .ref (E.1 + a1)), (2, .int x2)] → zz_Z E p l e (zz_rm 2) s m args below meth c (zz_Q (zz_pv E) E below args s) (b_X7_become_2 n a0 a1 x2 M) M (F0 m 2 ls []) := by
  intro n
  induction n with
  | zero => intro a0 a1 x2 ha0 ha1 M ls hl; exact zz_none
  | succ n ih =>
    intro a0 a1 x2 ha0 ha1 M ls hl
    rw [b_X7_become_2]
    refine zz_iload_n C dX7_become_2 rfl (lv_at hl 2 rfl) ?_
    refine zz_iconst (v := 4) C dX7_become_3 (by decide) ?_
    refine zz_icmp_ge (tgt := 28) C dX7_become_4 (by decide) (fun c_1 => ?_) (fun c_1 => ?_)
    · refine zz_aload_n C dX7_become_28 rfl (lv_at hl 0 rfl) ?_
      refine zz_aload_n C dX7_become_29 rfl (lv_at hl 1 rfl) ?_
      refine zz_get C (zz_lt ha1 (by decide)) (zz_c7 ha1) rfl in_X7_become_X7 1 (by decide) (List.mem_of_getElem? (i := 2) rfl) rfl dX7_become_30 ?_
      refine zz_put (M1 := zz_si M a0 1 (zz_i M a1 1)) C (zz_lt ha0 (by decide)) (zz_c7 ha0) rfl in_X7_become_X7 tyX7 tyX7_ok nmX7 1 (by decide) (List.mem_of_getElem? (i := 2) rfl) rfl rfl rfl (Nat.le_of_ble_eq_true rfl) (zz_p7_1 ha0) zz_cell_si dX7_become_33 (fun M_2 => ?_)
      refine zz_aload_n C dX7_become_36 rfl (lv_at hl 0 rfl) ?_
      refine zz_aload_n C dX7_become_37 rfl (lv_at hl 1 rfl) ?_
      refine zz_get C (zz_lt ha1 (by decide)) (zz_c7 ha1) rfl in_X7_become_X7 2 (by decide) (List.mem_of_getElem? (i := 3) rfl) rfl dX7_become_38 ?_
      refine zz_put (M1 := zz_si M_2 a0 2 (zz_i M_2 a1 2)) C (zz_lt ha0 (by decide)) (zz_c7 ha0) rfl in_X7_become_X7 tyX7 tyX7_ok nmX7 2 (by decide) (List.mem_of_getElem? (i := 3) rfl) rfl rfl rfl (Nat.le_of_ble_eq_true rfl) (zz_p7_2 ha0) zz_cell_si dX7_become_41 (fun M_3 => ?_)
      refine zz_aload_n C dX7_become_44 rfl (lv_at hl 0 rfl) ?_
      refine zz_aload_n C dX7_become_45 rfl (lv_at hl 1 rfl) ?_
      refine zz_get C (zz_lt ha1 (by decide)) (zz_c7 ha1) rfl in_X7_become_X7 3 (by decide) (List.mem_of_getElem? (i := 4) rfl) rfl dX7_become_46 ?_
      refine zz_put (M1 := zz_si M_3 a0 3 (zz_i M_3 a1 3)) C (zz_lt ha0 (by decide)) (zz_c7 ha0) rfl in_X7_become_X7 tyX7 tyX7_ok nmX7 3 (by decide) (List.mem_of_getElem? (i := 4) rfl) rfl rfl rfl (Nat.le_of_ble_eq_true rfl) (zz_p7_3 ha0) zz_cell_si dX7_become_49 (fun M_4 => ?_)
      exact zz_vret C hr dX7_become_52
    · refine zz_aload_n C dX7_become_7 rfl (lv_at hl 0 rfl) ?_
      refine zz_get C (zz_lt ha0 (by decide)) (zz_c7 ha0) rfl in_X7_become_X7 0 (by decide) (List.mem_of_getElem? (i := 1) rfl) rfl dX7_become_8 ?_
      refine zz_iload_n C dX7_become_11 rfl (lv_at hl 2 rfl) ?_
      refine zz_aald (t := 4) (g := fun i => (a0 + 1) + 1 + i) C (zz_lt (zz_s7_0 ha0) (by decide)) (zz_c21 (zz_s7_0 ha0)) rfl dX7_become_12 (fun b_5 => ?_)
      refine zz_aload_n C dX7_become_13 rfl (lv_at hl 1 rfl) ?_
      refine zz_get C (zz_lt ha1 (by decide)) (zz_c7 ha1) rfl in_X7_become_X7 0 (by decide) (List.mem_of_getElem? (i := 1) rfl) rfl dX7_become_14 ?_
      refine zz_iload_n C dX7_become_17 rfl (lv_at hl 2 rfl) ?_
      refine zz_aald (t := 4) (g := fun i => (a1 + 1) + 1 + i) C (zz_lt (zz_s7_0 ha1) (by decide)) (zz_c21 (zz_s7_0 ha1)) rfl dX7_become_18 (fun b_6 => ?_)
      refine zz_callVv (As := [.ref (E.1 + ((a1 + 1) + 1 + zz_n x2))]) (rest := []) C (m_X6_become l E ((a0 + 1) + 1 + zz_n x2) ((a1 + 1) + 1 + zz_n x2) (zz_e21 (zz_s7_0 ha0) b_5) (zz_e21 (zz_s7_0 ha1) b_6) M) (cwV 1 C.1.2.2.2.2 gX7_become_X6_become rfl rfl rfl hdV_X6_become ⟨Nat.le_of_ble_eq_true rfl, Nat.le_of_ble_eq_true rfl⟩) (zz_lt (zz_e21 (zz_s7_0 ha0) b_5) (by decide)) (zz_c6 (zz_e21 (zz_s7_0 ha0) b_5)) rfl rfl hl.1 rfl (Nat.le_of_ble_eq_true rfl) dX7_become_19 (fun _ M_7 => ?_)
      refine zz_iinc (k9 := 2) (d := 1) C (fun x2_8 => [(2, .int x2_8), (0, .ref (E.1 + a0)), (1, .ref (E.1 + a1))]) dX7_become_22 hl rfl (by decide) (by decide) (fun _ => rfl) (fun x2_8 ls hl => ?_)
      refine zz_goto (tgt := 2) C dX7_become_25 (by decide) ?_
      exact ih a0 a1 x2_8 ha0 ha1 M_7 ls (lv_sub hl [1, 2, 0] rfl)
def f_X7_become (a0 : Nat) (a1 : Nat) (M : zz_M) : Option (Unit × zz_M) := b_X7_become_2  zz_fuel a0 a1 (0 : Int32) M
set_option maxRecDepth 100000 in
set_option maxHeartbeats 4000000 in
theorem m_X7_become (l : Launch) (E : zz_E) (a0 : Nat) (a1 : Nat) (h0 : zz_sh a0 = 7) (h1 : zz_sh a1 = 7) (M : zz_M) : zz_Met (zz_pv E) l yX7_become wsX7_become 2 E [.ref (E.1 + a0), .ref (E.1 + a1)] M (f_X7_become a0 a1 M) := by
  refine zz_met (cc := cX7_become) (nL := 3) (ret := none) (by decide) rfl (Nat.le_of_ble_eq_true rfl) ?_
  intro p e s m below meth c C hr ls hl
  have C : zz_C E RX7 cX7_become 3 wsX7_become p s m [.ref (E.1 + a0), .ref (E.1 + a1)].toArray meth c := C
  have hl : lv_has ls 3 [(0, .ref (E.1 + a0)), (1, .ref (E.1 + a1))] := hl
  unfold f_X7_become
  refine zz_iconst (v := 0) C dX7_become_0 (by decide) ?_
  refine zz_istored_n (lv' := [(2, .int (0 : Int32)), (0, .ref (E.1 + a0)), (1, .ref (E.1 + a1))]) C dX7_become_1 rfl hl (by decide) rfl (fun ls hl => ?_)
  exact wb_X7_become_2 C hr  zz_fuel a0 a1 (0 : Int32) h0 h1 M ls (lv_sub hl [1, 2, 0] rfl)
-- X7_tend ('X7', 'tend', '(LFortyDips$Vat;)V')
theorem in_X7_tend_X6 : ∀ w ∈ u_ws RX6 TX6 4, w ∈ wsX7_tend := fun _ h => List.mem_cons_of_mem _ (List.mem_append_left _ (List.mem_append_right _ h))
theorem in_X7_tend_X7 : ∀ w ∈ u_ws RX7 TX7 4, w ∈ wsX7_tend := fun _ h => List.mem_cons_of_mem _ (List.mem_append_right _ h)
theorem hdV_X6_heat : yX6_heat.cls = RX6 ∧ yX6_heat.cls ≠ "java/lang/invoke/MethodHandle" ∧ yX6_heat.cls ≠ "java/lang/invoke/VarHandle" ∧ (parseMethodDescriptor yX6_heat.desc).map (fun d => d.parameters.length) = some 0 := by decide +kernel
def b_X7_tend_31 (a0 : Nat) (a1 : Nat) (M : zz_M) : Option (Unit × zz_M) := zz_bd (f_X6_cool a1 (zz_i M a0 2) M) (fun _ M_5 => some ((), M_5))
set_option maxRecDepth 100000 in
set_option maxHeartbeats 4000000 in
theorem wb_X7_tend_31 {p : Program} {l : Launch} {e : Env} {s : State} {m : MethodId} {args : Array Value} {below : List Frame} {meth : Method} {c : Code} {E : zz_E} (C : zz_C E RX7 cX7_tend 2 wsX7_tend p s m args meth c) (hr : meth.sig.returnType = none) : ∀ (a0 : Nat) (a1 : Nat) (ha0 : zz_sh a0 = 7) (ha1 : zz_sh a1 = 6) (M : zz_M) (ls : Array Slot), lv_has ls 2 [(0, .ref (E.1 + a0)), (1, .ref (E.1 + a1))] → zz_Z E p l e (zz_rm 2) s m args below meth c (zz_Q (zz_pv E) E below args s) (b_X7_tend_31 a0 a1 M) M (F0 m 31 ls []) := by
  intro a0 a1 ha0 ha1 M ls hl
  unfold b_X7_tend_31
  refine zz_aload_n C dX7_tend_31 rfl (lv_at hl 1 rfl) ?_
  refine zz_aload_n C dX7_tend_32 rfl (lv_at hl 0 rfl) ?_
  refine zz_get C (zz_lt ha0 (by decide)) (zz_c7 ha0) rfl in_X7_tend_X7 2 (by decide) (List.mem_of_getElem? (i := 3) rfl) rfl dX7_tend_33 ?_
  refine zz_callVv (As := [.int (zz_i M a0 2)]) (rest := []) C (m_X6_cool l E a1 (zz_i M a0 2) ha1 M) (cwV 1 C.1.2.2.2.2 gX7_tend_X6_cool rfl rfl rfl hdV_X6_cool ⟨Nat.le_of_ble_eq_true rfl, Nat.le_of_ble_eq_true rfl⟩) (zz_lt ha1 (by decide)) (zz_c6 ha1) rfl rfl hl.1 rfl (Nat.le_of_ble_eq_true rfl) dX7_tend_36 (fun _ M_5 => ?_)
  exact zz_vret C hr dX7_tend_39
def f_X7_tend (a0 : Nat) (a1 : Nat) (M : zz_M) : Option (Unit × zz_M) := (if (zz_i M a1 3) = 0 then b_X7_tend_31  a0 a1 M else (if (zz_i M a0 1) ≤ 0 then b_X7_tend_31  a0 a1 M else zz_w (zz_si M a0 1 ((zz_i M a0 1) - (1 : Int32))) (fun M_3 => zz_bd (f_X6_heat a1 M_3) (fun _ M_4 => some ((), M_4)))))
set_option maxRecDepth 100000 in
set_option maxHeartbeats 4000000 in
theorem m_X7_tend (l : Launch) (E : zz_E) (a0 : Nat) (a1 : Nat) (h0 : zz_sh a0 = 7) (h1 : zz_sh a1 = 6) (M : zz_M) : zz_Met (zz_pv E) l yX7_tend wsX7_tend 2 E [.ref (E.1 + a0), .ref (E.1 + a1)] M (f_X7_tend a0 a1 M) := by
  refine zz_met (cc := cX7_tend) (nL := 2) (ret := none) (by decide) rfl (Nat.le_of_ble_eq_true rfl) ?_
  intro p e s m below meth c C hr ls hl
  have C : zz_C E RX7 cX7_tend 2 wsX7_tend p s m [.ref (E.1 + a0), .ref (E.1 + a1)].toArray meth c := C
  have hl : lv_has ls 2 [(0, .ref (E.1 + a0)), (1, .ref (E.1 + a1))] := hl
  unfold f_X7_tend
  refine zz_aload_n C dX7_tend_0 rfl (lv_at hl 1 rfl) ?_
  refine zz_get C (zz_lt h1 (by decide)) (zz_c6 h1) rfl in_X7_tend_X6 3 (by decide) (List.mem_of_getElem? (i := 1) rfl) rfl dX7_tend_1 ?_
  refine zz_if_eq (tgt := 31) C dX7_tend_4 (by decide) (fun c_1 => ?_) (fun c_1 => ?_)
  · exact wb_X7_tend_31 C hr  a0 a1 h0 h1 M ls (lv_sub hl [0, 1] rfl)
  · refine zz_aload_n C dX7_tend_7 rfl (lv_at hl 0 rfl) ?_
    refine zz_get C (zz_lt h0 (by decide)) (zz_c7 h0) rfl in_X7_tend_X7 1 (by decide) (List.mem_of_getElem? (i := 2) rfl) rfl dX7_tend_8 ?_
    refine zz_if_le (tgt := 31) C dX7_tend_11 (by decide) (fun c_2 => ?_) (fun c_2 => ?_)
    · exact wb_X7_tend_31 C hr  a0 a1 h0 h1 M ls (lv_sub hl [0, 1] rfl)
    · refine zz_aload_n C dX7_tend_14 rfl (lv_at hl 0 rfl) ?_
      refine zz_dup C dX7_tend_15 rfl ?_
      refine zz_get C (zz_lt h0 (by decide)) (zz_c7 h0) rfl in_X7_tend_X7 1 (by decide) (List.mem_of_getElem? (i := 2) rfl) rfl dX7_tend_16 ?_
      refine zz_iconst (v := 1) C dX7_tend_19 (by decide) ?_
      refine zz_isub C dX7_tend_20 ?_
      refine zz_put (M1 := zz_si M a0 1 ((zz_i M a0 1) - (1 : Int32))) C (zz_lt h0 (by decide)) (zz_c7 h0) rfl in_X7_tend_X7 tyX7 tyX7_ok nmX7 1 (by decide) (List.mem_of_getElem? (i := 2) rfl) rfl rfl rfl (Nat.le_of_ble_eq_true rfl) (zz_p7_1 h0) zz_cell_si dX7_tend_21 (fun M_3 => ?_)
      refine zz_aload_n C dX7_tend_24 rfl (lv_at hl 1 rfl) ?_
      refine zz_callVv (As := []) (rest := []) C (m_X6_heat l E a1 h1 M_3) (cwV 0 C.1.2.2.2.2 gX7_tend_X6_heat rfl rfl rfl hdV_X6_heat ⟨Nat.le_of_ble_eq_true rfl, Nat.le_of_ble_eq_true rfl⟩) (zz_lt h1 (by decide)) (zz_c6 h1) rfl rfl hl.1 rfl (Nat.le_of_ble_eq_true rfl) dX7_tend_25 (fun _ M_4 => ?_)
      refine zz_goto (tgt := 39) C dX7_tend_28 (by decide) ?_
      exact zz_vret C hr dX7_tend_39
-- X7_pass ('X7', 'pass', '(I)V')
theorem in_X7_pass_X7 : ∀ w ∈ u_ws RX7 TX7 4, w ∈ wsX7_pass := fun _ h => List.mem_cons_of_mem _ (List.mem_append_left _ (List.mem_append_right _ h))
theorem hdV_X7_tend : yX7_tend.cls = RX7 ∧ yX7_tend.cls ≠ "java/lang/invoke/MethodHandle" ∧ yX7_tend.cls ≠ "java/lang/invoke/VarHandle" ∧ (parseMethodDescriptor yX7_tend.desc).map (fun d => d.parameters.length) = some 1 := by decide +kernel
def b_X7_pass_9 (k2 : Nat → Int32 → Int32 → zz_M → Option (Unit × zz_M)) : Nat → Nat → Int32 → Int32 → Int32 → zz_M → Option (Unit × zz_M)
  | 0 => fun _ _ _ _ _ => none
  | n + 1 => fun a0 x1 x2 x3 M => (if (4 : Int32) ≤ x3 then zz_w (zz_si M a0 3 ((zz_i M a0 3) + (1 : Int32))) (fun M_3 => zz_w (x2 + (1 : Int32)) (fun x2_4 => k2 a0 x1 x2_4 M_3)) else (if zz_in x3 4 = true then zz_bd (f_X7_tend a0 ((a0 + 1) + 1 + zz_n x3) M) (fun _ M_6 => zz_w (x3 + (1 : Int32)) (fun x3_7 => (b_X7_pass_9 k2 n) a0 x1 x2 x3_7 M_6)) else none))
set_option maxRecDepth 100000 in
set_option maxHeartbeats 4000000 in
theorem wb_X7_pass_9 {p : Program} {l : Launch} {e : Env} {s : State} {m : MethodId} {args : Array Value} {below : List Frame} {meth : Method} {c : Code} {E : zz_E} (C : zz_C E RX7 cX7_pass 4 wsX7_pass p s m args meth c) (hr : meth.sig.returnType = none) {k2 : Nat → Int32 → Int32 → zz_M → Option (Unit × zz_M)} (hk2 : ∀ (a0 : Nat) (x1 : Int32) (x2 : Int32) (ha0 : zz_sh a0 = 7) (M : zz_M) (ls : Array Slot), lv_has ls 4 [(0, .ref (E.1 + a0)), (1, .int x1), (2, .int x2)] → zz_Z E p l e (zz_rm 3) s m args below meth c (zz_Q (zz_pv E) E below args s) (k2 a0 x1 x2 M) M (F0 m 2 ls [])) : ∀ (n : Nat) (a0 : Nat) (x1 : Int32) (x2 : Int32) (x3 : Int32) (ha0 : zz_sh a0 = 7) (M : zz_M) (ls : Array Slot), lv_has ls 4 [(0, .ref (E.1 + a0)), (1, .int x1), (2, .int x2), (3, .int x3)] → zz_Z E p l e (zz_rm 3) s m args below meth c (zz_Q (zz_pv E) E below args s) (b_X7_pass_9 k2 n a0 x1 x2 x3 M) M (F0 m 9 ls []) := by
  intro n
  induction n with
  | zero => intro a0 x1 x2 x3 ha0 M ls hl; exact zz_none
  | succ n ih =>
    intro a0 x1 x2 x3 ha0 M ls hl
    rw [b_X7_pass_9]
    refine zz_iload_n C dX7_pass_9 rfl (lv_at hl 3 rfl) ?_
    refine zz_iconst (v := 4) C dX7_pass_10 (by decide) ?_
    refine zz_icmp_ge (tgt := 30) C dX7_pass_11 (by decide) (fun c_2 => ?_) (fun c_2 => ?_)
    · refine zz_aload_n C dX7_pass_30 rfl (lv_at hl 0 rfl) ?_
      refine zz_dup C dX7_pass_31 rfl ?_
      refine zz_get C (zz_lt ha0 (by decide)) (zz_c7 ha0) rfl in_X7_pass_X7 3 (by decide) (List.mem_of_getElem? (i := 2) rfl) rfl dX7_pass_32 ?_
      refine zz_iconst (v := 1) C dX7_pass_35 (by decide) ?_
      refine zz_iadd C dX7_pass_36 ?_
      refine zz_put (M1 := zz_si M a0 3 ((zz_i M a0 3) + (1 : Int32))) C (zz_lt ha0 (by decide)) (zz_c7 ha0) rfl in_X7_pass_X7 tyX7 tyX7_ok nmX7 3 (by decide) (List.mem_of_getElem? (i := 2) rfl) rfl rfl rfl (Nat.le_of_ble_eq_true rfl) (zz_p7_3 ha0) zz_cell_si dX7_pass_37 (fun M_3 => ?_)
      refine zz_iinc (k9 := 2) (d := 1) C (fun x2_4 => [(2, .int x2_4), (0, .ref (E.1 + a0)), (1, .int x1), (3, .int x3)]) dX7_pass_40 hl rfl (by decide) (by decide) (fun _ => rfl) (fun x2_4 ls hl => ?_)
      refine zz_goto (tgt := 2) C dX7_pass_43 (by decide) ?_
      exact hk2 a0 x1 x2_4 ha0 M_3 ls (lv_sub hl [1, 2, 0] rfl)
    · refine zz_aload_n C dX7_pass_14 rfl (lv_at hl 0 rfl) ?_
      refine zz_aload_n C dX7_pass_15 rfl (lv_at hl 0 rfl) ?_
      refine zz_get C (zz_lt ha0 (by decide)) (zz_c7 ha0) rfl in_X7_pass_X7 0 (by decide) (List.mem_of_getElem? (i := 1) rfl) rfl dX7_pass_16 ?_
      refine zz_iload_n C dX7_pass_19 rfl (lv_at hl 3 rfl) ?_
      refine zz_aald (t := 4) (g := fun i => (a0 + 1) + 1 + i) C (zz_lt (zz_s7_0 ha0) (by decide)) (zz_c21 (zz_s7_0 ha0)) rfl dX7_pass_20 (fun b_5 => ?_)
      refine zz_callVv (As := [.ref (E.1 + ((a0 + 1) + 1 + zz_n x3))]) (rest := []) C (m_X7_tend l E a0 ((a0 + 1) + 1 + zz_n x3) ha0 (zz_e21 (zz_s7_0 ha0) b_5) M) (cwV 1 C.1.2.2.2.2 gX7_pass_X7_tend rfl rfl rfl hdV_X7_tend ⟨Nat.le_of_ble_eq_true rfl, Nat.le_of_ble_eq_true rfl⟩) (zz_lt ha0 (by decide)) (zz_c7 ha0) rfl rfl hl.1 rfl (Nat.le_of_ble_eq_true rfl) dX7_pass_21 (fun _ M_6 => ?_)
      refine zz_iinc (k9 := 3) (d := 1) C (fun x3_7 => [(3, .int x3_7), (0, .ref (E.1 + a0)), (1, .int x1), (2, .int x2)]) dX7_pass_24 hl rfl (by decide) (by decide) (fun _ => rfl) (fun x3_7 ls hl => ?_)
      refine zz_goto (tgt := 9) C dX7_pass_27 (by decide) ?_
      exact ih a0 x1 x2 x3_7 ha0 M_6 ls (lv_sub hl [1, 2, 3, 0] rfl)
def b_X7_pass_2 : Nat → Nat → Int32 → Int32 → zz_M → Option (Unit × zz_M)
  | 0 => fun _ _ _ _ => none
  | n + 1 => fun a0 x1 x2 M => (if x1 ≤ x2 then some ((), M) else b_X7_pass_9 (b_X7_pass_2 n) zz_fuel a0 x1 x2 (0 : Int32) M)
set_option maxRecDepth 100000 in
set_option maxHeartbeats 4000000 in
theorem wb_X7_pass_2 {p : Program} {l : Launch} {e : Env} {s : State} {m : MethodId} {args : Array Value} {below : List Frame} {meth : Method} {c : Code} {E : zz_E} (C : zz_C E RX7 cX7_pass 4 wsX7_pass p s m args meth c) (hr : meth.sig.returnType = none) : ∀ (n : Nat) (a0 : Nat) (x1 : Int32) (x2 : Int32) (ha0 : zz_sh a0 = 7) (M : zz_M) (ls : Array Slot), lv_has ls 4 [(0, .ref (E.1 + a0)), (1, .int x1), (2, .int x2)] → zz_Z E p l e (zz_rm 3) s m args below meth c (zz_Q (zz_pv E) E below args s) (b_X7_pass_2 n a0 x1 x2 M) M (F0 m 2 ls []) := by
  intro n
  induction n with
  | zero => intro a0 x1 x2 ha0 M ls hl; exact zz_none
  | succ n ih =>
    intro a0 x1 x2 ha0 M ls hl
    rw [b_X7_pass_2]
    refine zz_iload_n C dX7_pass_2 rfl (lv_at hl 2 rfl) ?_
    refine zz_iload_n C dX7_pass_3 rfl (lv_at hl 1 rfl) ?_
    refine zz_icmp_ge (tgt := 46) C dX7_pass_4 (by decide) (fun c_1 => ?_) (fun c_1 => ?_)
    · exact zz_vret C hr dX7_pass_46
    · refine zz_iconst (v := 0) C dX7_pass_7 (by decide) ?_
      refine zz_istored_n (lv' := [(3, .int (0 : Int32)), (0, .ref (E.1 + a0)), (1, .int x1), (2, .int x2)]) C dX7_pass_8 rfl hl (by decide) rfl (fun ls hl => ?_)
      exact wb_X7_pass_9 C hr ih zz_fuel a0 x1 x2 (0 : Int32) ha0 M ls (lv_sub hl [1, 2, 3, 0] rfl)
def f_X7_pass (a0 : Nat) (x1 : Int32) (M : zz_M) : Option (Unit × zz_M) := b_X7_pass_2  zz_fuel a0 x1 (0 : Int32) M
set_option maxRecDepth 100000 in
set_option maxHeartbeats 4000000 in
theorem m_X7_pass (l : Launch) (E : zz_E) (a0 : Nat) (x1 : Int32) (h0 : zz_sh a0 = 7) (M : zz_M) : zz_Met (zz_pv E) l yX7_pass wsX7_pass 3 E [.ref (E.1 + a0), .int x1] M (f_X7_pass a0 x1 M) := by
  refine zz_met (cc := cX7_pass) (nL := 4) (ret := none) (by decide) rfl (Nat.le_of_ble_eq_true rfl) ?_
  intro p e s m below meth c C hr ls hl
  have C : zz_C E RX7 cX7_pass 4 wsX7_pass p s m [.ref (E.1 + a0), .int x1].toArray meth c := C
  have hl : lv_has ls 4 [(0, .ref (E.1 + a0)), (1, .int x1)] := hl
  unfold f_X7_pass
  refine zz_iconst (v := 0) C dX7_pass_0 (by decide) ?_
  refine zz_istored_n (lv' := [(2, .int (0 : Int32)), (0, .ref (E.1 + a0)), (1, .int x1)]) C dX7_pass_1 rfl hl (by decide) rfl (fun ls hl => ?_)
  exact wb_X7_pass_2 C hr  zz_fuel a0 x1 (0 : Int32) h0 M ls (lv_sub hl [1, 2, 0] rfl)
-- X7_light ('X7', 'light', '(I)V')
theorem in_X7_light_X6 : ∀ w ∈ u_ws RX6 TX6 4, w ∈ wsX7_light := fun _ h => List.mem_cons_of_mem _ (List.mem_append_right _ h)
theorem in_X7_light_X7 : ∀ w ∈ u_ws RX7 TX7 4, w ∈ wsX7_light := fun _ h => List.mem_cons_of_mem _ (List.mem_append_left _ (List.mem_append_right _ h))
def b_X7_light_27 (k2 : Nat → Int32 → Int32 → zz_M → Option (Unit × zz_M)) (a0 : Nat) (x1 : Int32) (x2 : Int32) (st0 : Int32) (rt1 : Nat) (M : zz_M) : Option (Unit × zz_M) := (if zz_bit st0 = true then zz_w (zz_si M rt1 3 st0) (fun M_4 => zz_w (x2 + (1 : Int32)) (fun x2_5 => k2 a0 x1 x2_5 M_4)) else none)
set_option maxRecDepth 100000 in
set_option maxHeartbeats 4000000 in
theorem wb_X7_light_27 {p : Program} {l : Launch} {e : Env} {s : State} {m : MethodId} {args : Array Value} {below : List Frame} {meth : Method} {c : Code} {E : zz_E} (C : zz_C E RX7 cX7_light 3 wsX7_light p s m args meth c) (hr : meth.sig.returnType = none) {k2 : Nat → Int32 → Int32 → zz_M → Option (Unit × zz_M)} (hk2 : ∀ (a0 : Nat) (x1 : Int32) (x2 : Int32) (ha0 : zz_sh a0 = 7) (M : zz_M) (ls : Array Slot), lv_has ls 3 [(0, .ref (E.1 + a0)), (1, .int x1), (2, .int x2)] → zz_Z E p l e (zz_rm 1) s m args below meth c (zz_Q (zz_pv E) E below args s) (k2 a0 x1 x2 M) M (F0 m 2 ls [])) : ∀ (a0 : Nat) (x1 : Int32) (x2 : Int32) (st0 : Int32) (rt1 : Nat) (ha0 : zz_sh a0 = 7) (hrt1 : zz_sh rt1 = 6) (M : zz_M) (ls : Array Slot), lv_has ls 3 [(0, .ref (E.1 + a0)), (1, .int x1), (2, .int x2)] → zz_Z E p l e (zz_rm 1) s m args below meth c (zz_Q (zz_pv E) E below args s) (b_X7_light_27 k2 a0 x1 x2 st0 rt1 M) M (F0 m 27 ls [.int st0, .ref (E.1 + rt1)]) := by
  intro a0 x1 x2 st0 rt1 ha0 hrt1 M ls hl
  unfold b_X7_light_27
  refine zz_guard (fun b_6 => ?_)
  refine zz_put (M1 := zz_si M rt1 3 st0) C (zz_lt hrt1 (by decide)) (zz_c6 hrt1) rfl in_X7_light_X6 tyX6 tyX6_ok nmX6 3 (by decide) (List.mem_of_getElem? (i := 2) rfl) rfl (zz_nb b_6) (zz_fb b_6) (Nat.le_of_ble_eq_true rfl) (zz_p6_3 hrt1) zz_cell_si dX7_light_27 (fun M_4 => ?_)
  refine zz_iinc (k9 := 2) (d := 1) C (fun x2_5 => [(2, .int x2_5), (0, .ref (E.1 + a0)), (1, .int x1)]) dX7_light_30 hl rfl (by decide) (by decide) (fun _ => rfl) (fun x2_5 ls hl => ?_)
  refine zz_goto (tgt := 2) C dX7_light_33 (by decide) ?_
  exact hk2 a0 x1 x2_5 ha0 M_4 ls (lv_sub hl [1, 2, 0] rfl)
def b_X7_light_2 : Nat → Nat → Int32 → Int32 → zz_M → Option (Unit × zz_M)
  | 0 => fun _ _ _ _ => none
  | n + 1 => fun a0 x1 x2 M => (if (4 : Int32) ≤ x2 then some ((), M) else (if zz_in x2 4 = true then (if ((x1 >>> (x2 &&& (31 : Int32))) &&& (1 : Int32)) = (1 : Int32) then b_X7_light_27 (b_X7_light_2 n) a0 x1 x2 (1 : Int32) ((a0 + 1) + 1 + zz_n x2) M else b_X7_light_27 (b_X7_light_2 n) a0 x1 x2 (0 : Int32) ((a0 + 1) + 1 + zz_n x2) M) else none))
set_option maxRecDepth 100000 in
set_option maxHeartbeats 4000000 in
theorem wb_X7_light_2 {p : Program} {l : Launch} {e : Env} {s : State} {m : MethodId} {args : Array Value} {below : List Frame} {meth : Method} {c : Code} {E : zz_E} (C : zz_C E RX7 cX7_light 3 wsX7_light p s m args meth c) (hr : meth.sig.returnType = none) : ∀ (n : Nat) (a0 : Nat) (x1 : Int32) (x2 : Int32) (ha0 : zz_sh a0 = 7) (M : zz_M) (ls : Array Slot), lv_has ls 3 [(0, .ref (E.1 + a0)), (1, .int x1), (2, .int x2)] → zz_Z E p l e (zz_rm 1) s m args below meth c (zz_Q (zz_pv E) E below args s) (b_X7_light_2 n a0 x1 x2 M) M (F0 m 2 ls []) := by
  intro n
  induction n with
  | zero => intro a0 x1 x2 ha0 M ls hl; exact zz_none
  | succ n ih =>
    intro a0 x1 x2 ha0 M ls hl
    rw [b_X7_light_2]
    refine zz_iload_n C dX7_light_2 rfl (lv_at hl 2 rfl) ?_
    refine zz_iconst (v := 4) C dX7_light_3 (by decide) ?_
    refine zz_icmp_ge (tgt := 36) C dX7_light_4 (by decide) (fun c_1 => ?_) (fun c_1 => ?_)
    · exact zz_vret C hr dX7_light_36
    · refine zz_aload_n C dX7_light_7 rfl (lv_at hl 0 rfl) ?_
      refine zz_get C (zz_lt ha0 (by decide)) (zz_c7 ha0) rfl in_X7_light_X7 0 (by decide) (List.mem_of_getElem? (i := 1) rfl) rfl dX7_light_8 ?_
      refine zz_iload_n C dX7_light_11 rfl (lv_at hl 2 rfl) ?_
      refine zz_aald (t := 4) (g := fun i => (a0 + 1) + 1 + i) C (zz_lt (zz_s7_0 ha0) (by decide)) (zz_c21 (zz_s7_0 ha0)) rfl dX7_light_12 (fun b_2 => ?_)
      refine zz_iload_n C dX7_light_13 rfl (lv_at hl 1 rfl) ?_
      refine zz_iload_n C dX7_light_14 rfl (lv_at hl 2 rfl) ?_
      refine zz_ishr C dX7_light_15 ?_
      refine zz_iconst (v := 1) C dX7_light_16 (by decide) ?_
      refine zz_iand C dX7_light_17 ?_
      refine zz_iconst (v := 1) C dX7_light_18 (by decide) ?_
      refine zz_icmp_ne (tgt := 26) C dX7_light_19 (by decide) (fun c_3 => ?_) (fun c_3 => ?_)
      · refine zz_iconst (v := 1) C dX7_light_22 (by decide) ?_
        refine zz_goto (tgt := 27) C dX7_light_23 (by decide) ?_
        exact wb_X7_light_27 C hr ih a0 x1 x2 (1 : Int32) ((a0 + 1) + 1 + zz_n x2) ha0 (zz_e21 (zz_s7_0 ha0) b_2) M ls (lv_sub hl [0, 1, 2] rfl)
      · refine zz_iconst (v := 0) C dX7_light_26 (by decide) ?_
        exact wb_X7_light_27 C hr ih a0 x1 x2 (0 : Int32) ((a0 + 1) + 1 + zz_n x2) ha0 (zz_e21 (zz_s7_0 ha0) b_2) M ls (lv_sub hl [0, 1, 2] rfl)
def f_X7_light (a0 : Nat) (x1 : Int32) (M : zz_M) : Option (Unit × zz_M) := b_X7_light_2  zz_fuel a0 x1 (0 : Int32) M
set_option maxRecDepth 100000 in
set_option maxHeartbeats 4000000 in
theorem m_X7_light (l : Launch) (E : zz_E) (a0 : Nat) (x1 : Int32) (h0 : zz_sh a0 = 7) (M : zz_M) : zz_Met (zz_pv E) l yX7_light wsX7_light 1 E [.ref (E.1 + a0), .int x1] M (f_X7_light a0 x1 M) := by
  refine zz_met (cc := cX7_light) (nL := 3) (ret := none) (by decide) rfl (Nat.le_of_ble_eq_true rfl) ?_
  intro p e s m below meth c C hr ls hl
  have C : zz_C E RX7 cX7_light 3 wsX7_light p s m [.ref (E.1 + a0), .int x1].toArray meth c := C
  have hl : lv_has ls 3 [(0, .ref (E.1 + a0)), (1, .int x1)] := hl
  unfold f_X7_light
  refine zz_iconst (v := 0) C dX7_light_0 (by decide) ?_
  refine zz_istored_n (lv' := [(2, .int (0 : Int32)), (0, .ref (E.1 + a0)), (1, .int x1)]) C dX7_light_1 rfl hl (by decide) rfl (fun ls hl => ?_)
  exact wb_X7_light_2 C hr  zz_fuel a0 x1 (0 : Int32) h0 M ls (lv_sub hl [1, 2, 0] rfl)
-- X7_lit ('X7', 'lit', '()I')
theorem in_X7_lit_X6 : ∀ w ∈ u_ws RX6 TX6 4, w ∈ wsX7_lit := fun _ h => List.mem_cons_of_mem _ (List.mem_append_right _ h)
theorem in_X7_lit_X7 : ∀ w ∈ u_ws RX7 TX7 4, w ∈ wsX7_lit := fun _ h => List.mem_cons_of_mem _ (List.mem_append_left _ (List.mem_append_right _ h))
def b_X7_lit_27 (k4 : Nat → Int32 → Int32 → zz_M → Option (Int32 × zz_M)) (a0 : Nat) (x1 : Int32) (x2 : Int32) (M : zz_M) : Option (Int32 × zz_M) := zz_w (x2 + (1 : Int32)) (fun x2_5 => k4 a0 x1 x2_5 M)
set_option maxRecDepth 100000 in
set_option maxHeartbeats 4000000 in
theorem wb_X7_lit_27 {p : Program} {l : Launch} {e : Env} {s : State} {m : MethodId} {args : Array Value} {below : List Frame} {meth : Method} {c : Code} {E : zz_E} (C : zz_C E RX7 cX7_lit 3 wsX7_lit p s m args meth c) (hr : meth.sig.returnType = (some .int)) {k4 : Nat → Int32 → Int32 → zz_M → Option (Int32 × zz_M)} (hk4 : ∀ (a0 : Nat) (x1 : Int32) (x2 : Int32) (ha0 : zz_sh a0 = 7) (M : zz_M) (ls : Array Slot), lv_has ls 3 [(0, .ref (E.1 + a0)), (1, .int x1), (2, .int x2)] → zz_Z E p l e (zz_rm 1) s m args below meth c (zz_Q (zz_pi E) E below args s) (k4 a0 x1 x2 M) M (F0 m 4 ls [])) : ∀ (a0 : Nat) (x1 : Int32) (x2 : Int32) (ha0 : zz_sh a0 = 7) (M : zz_M) (ls : Array Slot), lv_has ls 3 [(0, .ref (E.1 + a0)), (1, .int x1), (2, .int x2)] → zz_Z E p l e (zz_rm 1) s m args below meth c (zz_Q (zz_pi E) E below args s) (b_X7_lit_27 k4 a0 x1 x2 M) M (F0 m 27 ls []) := by
  intro a0 x1 x2 ha0 M ls hl
  unfold b_X7_lit_27
  refine zz_iinc (k9 := 2) (d := 1) C (fun x2_5 => [(2, .int x2_5), (0, .ref (E.1 + a0)), (1, .int x1)]) dX7_lit_27 hl rfl (by decide) (by decide) (fun _ => rfl) (fun x2_5 ls hl => ?_)
  refine zz_goto (tgt := 4) C dX7_lit_30 (by decide) ?_
  exact hk4 a0 x1 x2_5 ha0 M ls (lv_sub hl [1, 2, 0] rfl)
def b_X7_lit_4 : Nat → Nat → Int32 → Int32 → zz_M → Option (Int32 × zz_M)
  | 0 => fun _ _ _ _ => none
  | n + 1 => fun a0 x1 x2 M => (if (4 : Int32) ≤ x2 then some (x1, M) else (if zz_in x2 4 = true then (if (zz_i M ((a0 + 1) + 1 + zz_n x2) 3) = 0 then b_X7_lit_27 (b_X7_lit_4 n) a0 x1 x2 M else zz_w (x1 ||| ((1 : Int32) <<< (x2 &&& (31 : Int32)))) (fun x1_4 => b_X7_lit_27 (b_X7_lit_4 n) a0 x1_4 x2 M)) else none))
set_option maxRecDepth 100000 in
set_option maxHeartbeats 4000000 in
theorem wb_X7_lit_4 {p : Program} {l : Launch} {e : Env} {s : State} {m : MethodId} {args : Array Value} {below : List Frame} {meth : Method} {c : Code} {E : zz_E} (C : zz_C E RX7 cX7_lit 3 wsX7_lit p s m args meth c) (hr : meth.sig.returnType = (some .int)) : ∀ (n : Nat) (a0 : Nat) (x1 : Int32) (x2 : Int32) (ha0 : zz_sh a0 = 7) (M : zz_M) (ls : Array Slot), lv_has ls 3 [(0, .ref (E.1 + a0)), (1, .int x1), (2, .int x2)] → zz_Z E p l e (zz_rm 1) s m args below meth c (zz_Q (zz_pi E) E below args s) (b_X7_lit_4 n a0 x1 x2 M) M (F0 m 4 ls []) := by
  intro n
  induction n with
  | zero => intro a0 x1 x2 ha0 M ls hl; exact zz_none
  | succ n ih =>
    intro a0 x1 x2 ha0 M ls hl
    rw [b_X7_lit_4]
    refine zz_iload_n C dX7_lit_4 rfl (lv_at hl 2 rfl) ?_
    refine zz_iconst (v := 4) C dX7_lit_5 (by decide) ?_
    refine zz_icmp_ge (tgt := 33) C dX7_lit_6 (by decide) (fun c_1 => ?_) (fun c_1 => ?_)
    · refine zz_iload_n C dX7_lit_33 rfl (lv_at hl 1 rfl) ?_
      exact zz_iret C hr dX7_lit_34
    · refine zz_aload_n C dX7_lit_9 rfl (lv_at hl 0 rfl) ?_
      refine zz_get C (zz_lt ha0 (by decide)) (zz_c7 ha0) rfl in_X7_lit_X7 0 (by decide) (List.mem_of_getElem? (i := 1) rfl) rfl dX7_lit_10 ?_
      refine zz_iload_n C dX7_lit_13 rfl (lv_at hl 2 rfl) ?_
      refine zz_aald (t := 4) (g := fun i => (a0 + 1) + 1 + i) C (zz_lt (zz_s7_0 ha0) (by decide)) (zz_c21 (zz_s7_0 ha0)) rfl dX7_lit_14 (fun b_2 => ?_)
      refine zz_get C (zz_lt (zz_e21 (zz_s7_0 ha0) b_2) (by decide)) (zz_c6 (zz_e21 (zz_s7_0 ha0) b_2)) rfl in_X7_lit_X6 3 (by decide) (List.mem_of_getElem? (i := 2) rfl) rfl dX7_lit_15 ?_
      refine zz_if_eq (tgt := 27) C dX7_lit_18 (by decide) (fun c_3 => ?_) (fun c_3 => ?_)
      · exact wb_X7_lit_27 C hr ih a0 x1 x2 ha0 M ls (lv_sub hl [0, 1, 2] rfl)
      · refine zz_iload_n C dX7_lit_21 rfl (lv_at hl 1 rfl) ?_
        refine zz_iconst (v := 1) C dX7_lit_22 (by decide) ?_
        refine zz_iload_n C dX7_lit_23 rfl (lv_at hl 2 rfl) ?_
        refine zz_ishl C dX7_lit_24 ?_
        refine zz_ior C dX7_lit_25 ?_
        refine zz_istore_n C (fun x1_4 => [(1, .int x1_4), (0, .ref (E.1 + a0)), (2, .int x2)]) dX7_lit_26 rfl hl (by decide) (fun _ => rfl) (fun x1_4 ls hl => ?_)
        exact wb_X7_lit_27 C hr ih a0 x1_4 x2 ha0 M ls (lv_sub hl [1, 0, 2] rfl)
def f_X7_lit (a0 : Nat) (M : zz_M) : Option (Int32 × zz_M) := b_X7_lit_4  zz_fuel a0 (0 : Int32) (0 : Int32) M
set_option maxRecDepth 100000 in
set_option maxHeartbeats 4000000 in
theorem m_X7_lit (l : Launch) (E : zz_E) (a0 : Nat) (h0 : zz_sh a0 = 7) (M : zz_M) : zz_Met (zz_pi E) l yX7_lit wsX7_lit 1 E [.ref (E.1 + a0)] M (f_X7_lit a0 M) := by
  refine zz_met (cc := cX7_lit) (nL := 3) (ret := (some .int)) (by decide) rfl (Nat.le_of_ble_eq_true rfl) ?_
  intro p e s m below meth c C hr ls hl
  have C : zz_C E RX7 cX7_lit 3 wsX7_lit p s m [.ref (E.1 + a0)].toArray meth c := C
  have hl : lv_has ls 3 [(0, .ref (E.1 + a0))] := hl
  unfold f_X7_lit
  refine zz_iconst (v := 0) C dX7_lit_0 (by decide) ?_
  refine zz_istored_n (lv' := [(1, .int (0 : Int32)), (0, .ref (E.1 + a0))]) C dX7_lit_1 rfl hl (by decide) rfl (fun ls hl => ?_)
  refine zz_iconst (v := 0) C dX7_lit_2 (by decide) ?_
  refine zz_istored_n (lv' := [(2, .int (0 : Int32)), (1, .int (0 : Int32)), (0, .ref (E.1 + a0))]) C dX7_lit_3 rfl hl (by decide) rfl (fun ls hl => ?_)
  exact wb_X7_lit_4 C hr  zz_fuel a0 (0 : Int32) (0 : Int32) h0 M ls (lv_sub hl [2, 1, 0] rfl)
-- X7_coldest ('X7', 'coldest', '()I')
theorem in_X7_coldest_X6 : ∀ w ∈ u_ws RX6 TX6 4, w ∈ wsX7_coldest := fun _ h => List.mem_cons_of_mem _ (List.mem_append_right _ h)
theorem in_X7_coldest_X7 : ∀ w ∈ u_ws RX7 TX7 4, w ∈ wsX7_coldest := fun _ h => List.mem_cons_of_mem _ (List.mem_append_left _ (List.mem_append_right _ h))
def b_X7_coldest_5 : Nat → Nat → Int32 → Int32 → zz_M → Option (Int32 × zz_M)
  | 0 => fun _ _ _ _ => none
  | n + 1 => fun a0 x1 x2 M => (if (4 : Int32) ≤ x2 then some (x1, M) else (if zz_in x2 4 = true then zz_w (if (zz_i M ((a0 + 1) + 1 + zz_n x2) 1) < x1 then (zz_i M ((a0 + 1) + 1 + zz_n x2) 1) else x1) (fun x1_3 => zz_w (x2 + (1 : Int32)) (fun x2_4 => (b_X7_coldest_5 n) a0 x1_3 x2_4 M)) else none))
set_option maxRecDepth 100000 in
set_option maxHeartbeats 4000000 in
theorem wb_X7_coldest_5 {p : Program} {l : Launch} {e : Env} {s : State} {m : MethodId} {args : Array Value} {below : List Frame} {meth : Method} {c : Code} {E : zz_E} (C : zz_C E RX7 cX7_coldest 3 wsX7_coldest p s m args meth c) (hr : meth.sig.returnType = (some .int)) : ∀ (n : Nat) (a0 : Nat) (x1 : Int32) (x2 : Int32) (ha0 : zz_sh a0 = 7) (M : zz_M) (ls : Array Slot), lv_has ls 3 [(0, .ref (E.1 + a0)), (1, .int x1), (2, .int x2)] → zz_Z E p l e (zz_rm 1) s m args below meth c (zz_Q (zz_pi E) E below args s) (b_X7_coldest_5 n a0 x1 x2 M) M (F0 m 5 ls []) := by
  intro n
  induction n with
  | zero => intro a0 x1 x2 ha0 M ls hl; exact zz_none
  | succ n ih =>
    intro a0 x1 x2 ha0 M ls hl
    rw [b_X7_coldest_5]
    refine zz_iload_n C dX7_coldest_5 rfl (lv_at hl 2 rfl) ?_
    refine zz_iconst (v := 4) C dX7_coldest_6 (by decide) ?_
    refine zz_icmp_ge (tgt := 30) C dX7_coldest_7 (by decide) (fun c_1 => ?_) (fun c_1 => ?_)
    · refine zz_iload_n C dX7_coldest_30 rfl (lv_at hl 1 rfl) ?_
      exact zz_iret C hr dX7_coldest_31
    · refine zz_iload_n C dX7_coldest_10 rfl (lv_at hl 1 rfl) ?_
      refine zz_aload_n C dX7_coldest_11 rfl (lv_at hl 0 rfl) ?_
      refine zz_get C (zz_lt ha0 (by decide)) (zz_c7 ha0) rfl in_X7_coldest_X7 0 (by decide) (List.mem_of_getElem? (i := 1) rfl) rfl dX7_coldest_12 ?_
      refine zz_iload_n C dX7_coldest_15 rfl (lv_at hl 2 rfl) ?_
      refine zz_aald (t := 4) (g := fun i => (a0 + 1) + 1 + i) C (zz_lt (zz_s7_0 ha0) (by decide)) (zz_c21 (zz_s7_0 ha0)) rfl dX7_coldest_16 (fun b_2 => ?_)
      refine zz_get C (zz_lt (zz_e21 (zz_s7_0 ha0) b_2) (by decide)) (zz_c6 (zz_e21 (zz_s7_0 ha0) b_2)) rfl in_X7_coldest_X6 1 (by decide) (List.mem_of_getElem? (i := 2) rfl) rfl dX7_coldest_17 ?_
      refine zz_mmin C hl.1 (List.mem_of_getElem? (i := 3) rfl) (List.mem_of_getElem? (i := 4) rfl) (List.mem_of_getElem? (i := 5) rfl) (List.mem_of_getElem? (i := 6) rfl) (Nat.le_of_ble_eq_true rfl) (Nat.le_of_ble_eq_true rfl) dX7_coldest_20 ?_
      refine zz_istore_n C (fun x1_3 => [(1, .int x1_3), (0, .ref (E.1 + a0)), (2, .int x2)]) dX7_coldest_23 rfl hl (by decide) (fun _ => rfl) (fun x1_3 ls hl => ?_)
      refine zz_iinc (k9 := 2) (d := 1) C (fun x2_4 => [(2, .int x2_4), (1, .int x1_3), (0, .ref (E.1 + a0))]) dX7_coldest_24 hl rfl (by decide) (by decide) (fun _ => rfl) (fun x2_4 ls hl => ?_)
      refine zz_goto (tgt := 5) C dX7_coldest_27 (by decide) ?_
      exact ih a0 x1_3 x2_4 ha0 M ls (lv_sub hl [2, 1, 0] rfl)
def f_X7_coldest (a0 : Nat) (M : zz_M) : Option (Int32 × zz_M) := b_X7_coldest_5  zz_fuel a0 (99 : Int32) (0 : Int32) M
set_option maxRecDepth 100000 in
set_option maxHeartbeats 4000000 in
theorem m_X7_coldest (l : Launch) (E : zz_E) (a0 : Nat) (h0 : zz_sh a0 = 7) (M : zz_M) : zz_Met (zz_pi E) l yX7_coldest wsX7_coldest 1 E [.ref (E.1 + a0)] M (f_X7_coldest a0 M) := by
  refine zz_met (cc := cX7_coldest) (nL := 3) (ret := (some .int)) (by decide) rfl (Nat.le_of_ble_eq_true rfl) ?_
  intro p e s m below meth c C hr ls hl
  have C : zz_C E RX7 cX7_coldest 3 wsX7_coldest p s m [.ref (E.1 + a0)].toArray meth c := C
  have hl : lv_has ls 3 [(0, .ref (E.1 + a0))] := hl
  unfold f_X7_coldest
  refine zz_bipush (v := 99) C dX7_coldest_0 (by decide) ?_
  refine zz_istored_n (lv' := [(1, .int (99 : Int32)), (0, .ref (E.1 + a0))]) C dX7_coldest_2 rfl hl (by decide) rfl (fun ls hl => ?_)
  refine zz_iconst (v := 0) C dX7_coldest_3 (by decide) ?_
  refine zz_istored_n (lv' := [(2, .int (0 : Int32)), (1, .int (99 : Int32)), (0, .ref (E.1 + a0))]) C dX7_coldest_4 rfl hl (by decide) rfl (fun ls hl => ?_)
  exact wb_X7_coldest_5 C hr  zz_fuel a0 (99 : Int32) (0 : Int32) h0 M ls (lv_sub hl [2, 1, 0] rfl)
-- X7_grams ('X7', 'grams', '()I')
theorem in_X7_grams_X6 : ∀ w ∈ u_ws RX6 TX6 4, w ∈ wsX7_grams := fun _ h => List.mem_cons_of_mem _ (List.mem_append_right _ h)
theorem in_X7_grams_X7 : ∀ w ∈ u_ws RX7 TX7 4, w ∈ wsX7_grams := fun _ h => List.mem_cons_of_mem _ (List.mem_append_left _ (List.mem_append_right _ h))
def b_X7_grams_4 : Nat → Nat → Int32 → Int32 → zz_M → Option (Int32 × zz_M)
  | 0 => fun _ _ _ _ => none
  | n + 1 => fun a0 x1 x2 M => (if (4 : Int32) ≤ x2 then some (x1, M) else (if zz_in x2 4 = true then zz_w (x1 + (zz_i M ((a0 + 1) + 1 + zz_n x2) 2)) (fun x1_3 => zz_w (x2 + (1 : Int32)) (fun x2_4 => (b_X7_grams_4 n) a0 x1_3 x2_4 M)) else none))
set_option maxRecDepth 100000 in
set_option maxHeartbeats 4000000 in
theorem wb_X7_grams_4 {p : Program} {l : Launch} {e : Env} {s : State} {m : MethodId} {args : Array Value} {below : List Frame} {meth : Method} {c : Code} {E : zz_E} (C : zz_C E RX7 cX7_grams 3 wsX7_grams p s m args meth c) (hr : meth.sig.returnType = (some .int)) : ∀ (n : Nat) (a0 : Nat) (x1 : Int32) (x2 : Int32) (ha0 : zz_sh a0 = 7) (M : zz_M) (ls : Array Slot), lv_has ls 3 [(0, .ref (E.1 + a0)), (1, .int x1), (2, .int x2)] → zz_Z E p l e (zz_rm 1) s m args below meth c (zz_Q (zz_pi E) E below args s) (b_X7_grams_4 n a0 x1 x2 M) M (F0 m 4 ls []) := by
  intro n
  induction n with
  | zero => intro a0 x1 x2 ha0 M ls hl; exact zz_none
  | succ n ih =>
    intro a0 x1 x2 ha0 M ls hl
    rw [b_X7_grams_4]
    refine zz_iload_n C dX7_grams_4 rfl (lv_at hl 2 rfl) ?_
    refine zz_iconst (v := 4) C dX7_grams_5 (by decide) ?_
    refine zz_icmp_ge (tgt := 27) C dX7_grams_6 (by decide) (fun c_1 => ?_) (fun c_1 => ?_)
    · refine zz_iload_n C dX7_grams_27 rfl (lv_at hl 1 rfl) ?_
      exact zz_iret C hr dX7_grams_28
    · refine zz_iload_n C dX7_grams_9 rfl (lv_at hl 1 rfl) ?_
      refine zz_aload_n C dX7_grams_10 rfl (lv_at hl 0 rfl) ?_
      refine zz_get C (zz_lt ha0 (by decide)) (zz_c7 ha0) rfl in_X7_grams_X7 0 (by decide) (List.mem_of_getElem? (i := 1) rfl) rfl dX7_grams_11 ?_
      refine zz_iload_n C dX7_grams_14 rfl (lv_at hl 2 rfl) ?_
      refine zz_aald (t := 4) (g := fun i => (a0 + 1) + 1 + i) C (zz_lt (zz_s7_0 ha0) (by decide)) (zz_c21 (zz_s7_0 ha0)) rfl dX7_grams_15 (fun b_2 => ?_)
      refine zz_get C (zz_lt (zz_e21 (zz_s7_0 ha0) b_2) (by decide)) (zz_c6 (zz_e21 (zz_s7_0 ha0) b_2)) rfl in_X7_grams_X6 2 (by decide) (List.mem_of_getElem? (i := 2) rfl) rfl dX7_grams_16 ?_
      refine zz_iadd C dX7_grams_19 ?_
      refine zz_istore_n C (fun x1_3 => [(1, .int x1_3), (0, .ref (E.1 + a0)), (2, .int x2)]) dX7_grams_20 rfl hl (by decide) (fun _ => rfl) (fun x1_3 ls hl => ?_)
      refine zz_iinc (k9 := 2) (d := 1) C (fun x2_4 => [(2, .int x2_4), (1, .int x1_3), (0, .ref (E.1 + a0))]) dX7_grams_21 hl rfl (by decide) (by decide) (fun _ => rfl) (fun x2_4 ls hl => ?_)
      refine zz_goto (tgt := 4) C dX7_grams_24 (by decide) ?_
      exact ih a0 x1_3 x2_4 ha0 M ls (lv_sub hl [2, 1, 0] rfl)
def f_X7_grams (a0 : Nat) (M : zz_M) : Option (Int32 × zz_M) := b_X7_grams_4  zz_fuel a0 (0 : Int32) (0 : Int32) M
set_option maxRecDepth 100000 in
set_option maxHeartbeats 4000000 in
theorem m_X7_grams (l : Launch) (E : zz_E) (a0 : Nat) (h0 : zz_sh a0 = 7) (M : zz_M) : zz_Met (zz_pi E) l yX7_grams wsX7_grams 1 E [.ref (E.1 + a0)] M (f_X7_grams a0 M) := by
  refine zz_met (cc := cX7_grams) (nL := 3) (ret := (some .int)) (by decide) rfl (Nat.le_of_ble_eq_true rfl) ?_
  intro p e s m below meth c C hr ls hl
  have C : zz_C E RX7 cX7_grams 3 wsX7_grams p s m [.ref (E.1 + a0)].toArray meth c := C
  have hl : lv_has ls 3 [(0, .ref (E.1 + a0))] := hl
  unfold f_X7_grams
  refine zz_iconst (v := 0) C dX7_grams_0 (by decide) ?_
  refine zz_istored_n (lv' := [(1, .int (0 : Int32)), (0, .ref (E.1 + a0))]) C dX7_grams_1 rfl hl (by decide) rfl (fun ls hl => ?_)
  refine zz_iconst (v := 0) C dX7_grams_2 (by decide) ?_
  refine zz_istored_n (lv' := [(2, .int (0 : Int32)), (1, .int (0 : Int32)), (0, .ref (E.1 + a0))]) C dX7_grams_3 rfl hl (by decide) rfl (fun ls hl => ?_)
  exact wb_X7_grams_4 C hr  zz_fuel a0 (0 : Int32) (0 : Int32) h0 M ls (lv_sub hl [2, 1, 0] rfl)
-- X1_become ('X1', 'become', '(LFortyDips$Chandlery;)V')
theorem in_X1_become_X1 : ∀ w ∈ u_ws RX1 TX1 3, w ∈ wsX1_become := fun _ h => List.mem_cons_of_mem _ (List.mem_append_left _ (List.mem_append_left _ (List.mem_append_left _ (List.mem_append_right _ h))))
theorem hdV_X0_become : yX0_become.cls = RX0 ∧ yX0_become.cls ≠ "java/lang/invoke/MethodHandle" ∧ yX0_become.cls ≠ "java/lang/invoke/VarHandle" ∧ (parseMethodDescriptor yX0_become.desc).map (fun d => d.parameters.length) = some 1 := by decide +kernel
theorem hdV_X7_become : yX7_become.cls = RX7 ∧ yX7_become.cls ≠ "java/lang/invoke/MethodHandle" ∧ yX7_become.cls ≠ "java/lang/invoke/VarHandle" ∧ (parseMethodDescriptor yX7_become.desc).map (fun d => d.parameters.length) = some 1 := by decide +kernel
def b_X1_become_21 : Nat → Nat → Nat → Int32 → zz_M → Option (Unit × zz_M)
  | 0 => fun _ _ _ _ => none
  | n + 1 => fun a0 a1 x2 M => (if (10 : Int32) ≤ x2 then some ((), M) else (if zz_in x2 10 = true then (if zz_in x2 10 = true then zz_bd (f_X0_become ((a0 + 7) + 1 + 2 * zz_n x2) ((a1 + 7) + 1 + 2 * zz_n x2) M) (fun _ M_6 => zz_w (x2 + (1 : Int32)) (fun x2_7 => (b_X1_become_21 n) a0 a1 x2_7 M_6)) else none) else none))
set_option maxRecDepth 100000 in
set_option maxHeartbeats 4000000 in
theorem wb_X1_become_21 {p : Program} {l : Launch} {e : Env} {s : State} {m : MethodId} {args : Array Value} {below : List Frame} {meth : Method} {c : Code} {E : zz_E} (C : zz_C E RX1 cX1_become 3 wsX1_become p s m args meth c) (hr : meth.sig.returnType = none) : ∀ (n : Nat) (a0 : Nat) (a1 : Nat) (x2 : Int32) (ha0 : zz_sh a0 = 1) (ha1 : zz_sh a1 = 1) (M : zz_M) (ls : Array Slot), lv_has ls 3 [(0, .ref (E.1 + a0)), (1, .ref (E.1 + a1)), (2, .int x2)] → zz_Z E p l e (zz_rm 3) s m args below meth c (zz_Q (zz_pv E) E below args s) (b_X1_become_21 n a0 a1 x2 M) M (F0 m 21 ls []) := by
  intro n
  induction n with
  | zero => intro a0 a1 x2 ha0 ha1 M ls hl; exact zz_none
  | succ n ih =>
    intro a0 a1 x2 ha0 ha1 M ls hl
    rw [b_X1_become_21]
    refine zz_iload_n C dX1_become_21 rfl (lv_at hl 2 rfl) ?_
    refine zz_bipush (v := 10) C dX1_become_22 (by decide) ?_
    refine zz_icmp_ge (tgt := 48) C dX1_become_24 (by decide) (fun c_3 => ?_) (fun c_3 => ?_)
    · exact zz_vret C hr dX1_become_48
    · refine zz_aload_n C dX1_become_27 rfl (lv_at hl 0 rfl) ?_
      refine zz_get C (zz_lt ha0 (by decide)) (zz_c1 ha0) rfl in_X1_become_X1 1 (by decide) (List.mem_of_getElem? (i := 3) rfl) rfl dX1_become_28 ?_
      refine zz_iload_n C dX1_become_31 rfl (lv_at hl 2 rfl) ?_
      refine zz_aald (t := 2) (g := fun i => (a0 + 7) + 1 + 2 * i) C (zz_lt (zz_s1_1 ha0) (by decide)) (zz_c18 (zz_s1_1 ha0)) rfl dX1_become_32 (fun b_4 => ?_)
      refine zz_aload_n C dX1_become_33 rfl (lv_at hl 1 rfl) ?_
      refine zz_get C (zz_lt ha1 (by decide)) (zz_c1 ha1) rfl in_X1_become_X1 1 (by decide) (List.mem_of_getElem? (i := 3) rfl) rfl dX1_become_34 ?_
      refine zz_iload_n C dX1_become_37 rfl (lv_at hl 2 rfl) ?_
      refine zz_aald (t := 2) (g := fun i => (a1 + 7) + 1 + 2 * i) C (zz_lt (zz_s1_1 ha1) (by decide)) (zz_c18 (zz_s1_1 ha1)) rfl dX1_become_38 (fun b_5 => ?_)
      refine zz_callVv (As := [.ref (E.1 + ((a1 + 7) + 1 + 2 * zz_n x2))]) (rest := []) C (m_X0_become l E ((a0 + 7) + 1 + 2 * zz_n x2) ((a1 + 7) + 1 + 2 * zz_n x2) (zz_e18 (zz_s1_1 ha0) b_4) (zz_e18 (zz_s1_1 ha1) b_5) M) (cwV 1 C.1.2.2.2.2 gX1_become_X0_become rfl rfl rfl hdV_X0_become ⟨Nat.le_of_ble_eq_true rfl, Nat.le_of_ble_eq_true rfl⟩) (zz_lt (zz_e18 (zz_s1_1 ha0) b_4) (by decide)) (zz_c0 (zz_e18 (zz_s1_1 ha0) b_4)) rfl rfl hl.1 rfl (Nat.le_of_ble_eq_true rfl) dX1_become_39 (fun _ M_6 => ?_)
      refine zz_iinc (k9 := 2) (d := 1) C (fun x2_7 => [(2, .int x2_7), (0, .ref (E.1 + a0)), (1, .ref (E.1 + a1))]) dX1_become_42 hl rfl (by decide) (by decide) (fun _ => rfl) (fun x2_7 ls hl => ?_)
      refine zz_goto (tgt := 21) C dX1_become_45 (by decide) ?_
      exact ih a0 a1 x2_7 ha0 ha1 M_6 ls (lv_sub hl [1, 2, 0] rfl)
def f_X1_become (a0 : Nat) (a1 : Nat) (M : zz_M) : Option (Unit × zz_M) := zz_bd (f_X7_become (a0 + 1) (a1 + 1) M) (fun _ M_1 => zz_w (zz_si M_1 a0 2 (zz_i M_1 a1 2)) (fun M_2 => b_X1_become_21  zz_fuel a0 a1 (0 : Int32) M_2))
set_option maxRecDepth 100000 in
set_option maxHeartbeats 4000000 in
theorem m_X1_become (l : Launch) (E : zz_E) (a0 : Nat) (a1 : Nat) (h0 : zz_sh a0 = 1) (h1 : zz_sh a1 = 1) (M : zz_M) : zz_Met (zz_pv E) l yX1_become wsX1_become 3 E [.ref (E.1 + a0), .ref (E.1 + a1)] M (f_X1_become a0 a1 M) := by
  refine zz_met (cc := cX1_become) (nL := 3) (ret := none) (by decide) rfl (Nat.le_of_ble_eq_true rfl) ?_
  intro p e s m below meth c C hr ls hl
  have C : zz_C E RX1 cX1_become 3 wsX1_become p s m [.ref (E.1 + a0), .ref (E.1 + a1)].toArray meth c := C
  have hl : lv_has ls 3 [(0, .ref (E.1 + a0)), (1, .ref (E.1 + a1))] := hl
  unfold f_X1_become
  refine zz_aload_n C dX1_become_0 rfl (lv_at hl 0 rfl) ?_
  refine zz_get C (zz_lt h0 (by decide)) (zz_c1 h0) rfl in_X1_become_X1 0 (by decide) (List.mem_of_getElem? (i := 1) rfl) rfl dX1_become_1 ?_
  refine zz_aload_n C dX1_become_4 rfl (lv_at hl 1 rfl) ?_
  refine zz_get C (zz_lt h1 (by decide)) (zz_c1 h1) rfl in_X1_become_X1 0 (by decide) (List.mem_of_getElem? (i := 1) rfl) rfl dX1_become_5 ?_
  refine zz_callVv (As := [.ref (E.1 + (a1 + 1))]) (rest := []) C (m_X7_become l E (a0 + 1) (a1 + 1) (zz_s1_0 h0) (zz_s1_0 h1) M) (cwV 1 C.1.2.2.2.2 gX1_become_X7_become rfl rfl rfl hdV_X7_become ⟨Nat.le_of_ble_eq_true rfl, Nat.le_of_ble_eq_true rfl⟩) (zz_lt (zz_s1_0 h0) (by decide)) (zz_c7 (zz_s1_0 h0)) rfl rfl hl.1 rfl (Nat.le_of_ble_eq_true rfl) dX1_become_8 (fun _ M_1 => ?_)
  refine zz_aload_n C dX1_become_11 rfl (lv_at hl 0 rfl) ?_
  refine zz_aload_n C dX1_become_12 rfl (lv_at hl 1 rfl) ?_
  refine zz_get C (zz_lt h1 (by decide)) (zz_c1 h1) rfl in_X1_become_X1 2 (by decide) (List.mem_of_getElem? (i := 2) rfl) rfl dX1_become_13 ?_
  refine zz_put (M1 := zz_si M_1 a0 2 (zz_i M_1 a1 2)) C (zz_lt h0 (by decide)) (zz_c1 h0) rfl in_X1_become_X1 tyX1 tyX1_ok nmX1 2 (by decide) (List.mem_of_getElem? (i := 2) rfl) rfl rfl rfl (Nat.le_of_ble_eq_true rfl) (zz_p1_2 h0) zz_cell_si dX1_become_16 (fun M_2 => ?_)
  refine zz_iconst (v := 0) C dX1_become_19 (by decide) ?_
  refine zz_istored_n (lv' := [(2, .int (0 : Int32)), (0, .ref (E.1 + a0)), (1, .ref (E.1 + a1))]) C dX1_become_20 rfl hl (by decide) rfl (fun ls hl => ?_)
  exact wb_X1_become_21 C hr  zz_fuel a0 a1 (0 : Int32) h0 h1 M_2 ls (lv_sub hl [1, 2, 0] rfl)
-- X1_has ('X1', 'has', '(I)Z')
theorem in_X1_has_X1 : ∀ w ∈ u_ws RX1 TX1 3, w ∈ wsX1_has := fun _ h => List.mem_cons_of_mem _ (List.mem_append_right _ h)
def f_X1_has (a0 : Nat) (x1 : Int32) (M : zz_M) : Option (Int32 × zz_M) := zz_bd (f_X8_within x1 (0 : Int32) ((zz_i M a0 2) - (1 : Int32)) M) (fun r_1 M_2 => (if zz_bit r_1 = true then some (r_1, M_2) else none))
set_option maxRecDepth 100000 in
set_option maxHeartbeats 4000000 in
theorem m_X1_has (l : Launch) (E : zz_E) (a0 : Nat) (x1 : Int32) (h0 : zz_sh a0 = 1) (M : zz_M) : zz_Met (zz_pi E) l yX1_has wsX1_has 2 E [.ref (E.1 + a0), .int x1] M (f_X1_has a0 x1 M) := by
  refine zz_met (cc := cX1_has) (nL := 2) (ret := (some .boolean)) (by decide) rfl (Nat.le_of_ble_eq_true rfl) ?_
  intro p e s m below meth c C hr ls hl
  have C : zz_C E RX1 cX1_has 2 wsX1_has p s m [.ref (E.1 + a0), .int x1].toArray meth c := C
  have hl : lv_has ls 2 [(0, .ref (E.1 + a0)), (1, .int x1)] := hl
  unfold f_X1_has
  refine zz_iload_n C dX1_has_0 rfl (lv_at hl 1 rfl) ?_
  refine zz_iconst (v := 0) C dX1_has_1 (by decide) ?_
  refine zz_aload_n C dX1_has_2 rfl (lv_at hl 0 rfl) ?_
  refine zz_get C (zz_lt h0 (by decide)) (zz_c1 h0) rfl in_X1_has_X1 2 (by decide) (List.mem_of_getElem? (i := 1) rfl) rfl dX1_has_3 ?_
  refine zz_iconst (v := 1) C dX1_has_6 (by decide) ?_
  refine zz_isub C dX1_has_7 ?_
  refine zz_callNi (As := [.int x1, .int (0 : Int32), .int ((zz_i M a0 2) - (1 : Int32))]) (rest := []) C (m_X8_within l E x1 (0 : Int32) ((zz_i M a0 2) - (1 : Int32))  M) ⟨va_cnB 3 C.1.2.2.2.2 gX1_has_X8_within_n36 rfl rfl rfl C.2.1.2.1.2.2.2.1 (C.1.2.2.2.2 _ (List.mem_of_getElem? (i := 3) rfl)) hdS_X8_within ⟨Nat.le_of_ble_eq_true rfl, Nat.le_of_ble_eq_true rfl⟩, C.1.2.2.2.2 _ (List.mem_of_getElem? (i := 2) rfl), trivial⟩ rfl hl.1 rfl (Nat.le_of_ble_eq_true rfl) dX1_has_8 (fun r_1 M_2 => ?_)
  exact zz_zret C hr dX1_has_11
-- X1_addCandle ('X1', 'addCandle', '(I)Z')
theorem in_X1_addCandle_X0 : ∀ w ∈ u_ws RX0 TX0 5, w ∈ wsX1_addCandle := fun _ h => List.mem_cons_of_mem _ (List.mem_append_right _ h)
theorem in_X1_addCandle_X1 : ∀ w ∈ u_ws RX1 TX1 3, w ∈ wsX1_addCandle := fun _ h => List.mem_cons_of_mem _ (List.mem_append_left _ (List.mem_append_right _ h))
theorem hdV_X0_strip : yX0_strip.cls = RX0 ∧ yX0_strip.cls ≠ "java/lang/invoke/MethodHandle" ∧ yX0_strip.cls ≠ "java/lang/invoke/VarHandle" ∧ (parseMethodDescriptor yX0_strip.desc).map (fun d => d.parameters.length) = some 0 := by decide +kernel
def f_X1_addCandle (a0 : Nat) (x1 : Int32) (M : zz_M) : Option (Int32 × zz_M) := (if (zz_i M a0 2) < (10 : Int32) then (if zz_in (zz_i M a0 2) 10 = true then zz_bd (f_X0_strip ((a0 + 7) + 1 + 2 * zz_n (zz_i M a0 2)) M) (fun _ M_3 => (if zz_in (zz_i M_3 a0 2) 10 = true then zz_w (zz_si M_3 ((a0 + 7) + 1 + 2 * zz_n (zz_i M_3 a0 2)) 0 x1) (fun M_5 => zz_w (zz_si M_5 a0 2 ((zz_i M_5 a0 2) + (1 : Int32))) (fun M_6 => some ((1 : Int32), M_6))) else none)) else none) else some ((0 : Int32), M))
set_option maxRecDepth 100000 in
set_option maxHeartbeats 4000000 in
theorem m_X1_addCandle (l : Launch) (E : zz_E) (a0 : Nat) (x1 : Int32) (h0 : zz_sh a0 = 1) (M : zz_M) : zz_Met (zz_pi E) l yX1_addCandle wsX1_addCandle 2 E [.ref (E.1 + a0), .int x1] M (f_X1_addCandle a0 x1 M) := by
  refine zz_met (cc := cX1_addCandle) (nL := 2) (ret := (some .boolean)) (by decide) rfl (Nat.le_of_ble_eq_true rfl) ?_
  intro p e s m below meth c C hr ls hl
  have C : zz_C E RX1 cX1_addCandle 2 wsX1_addCandle p s m [.ref (E.1 + a0), .int x1].toArray meth c := C
  have hl : lv_has ls 2 [(0, .ref (E.1 + a0)), (1, .int x1)] := hl
  unfold f_X1_addCandle
  refine zz_aload_n C dX1_addCandle_0 rfl (lv_at hl 0 rfl) ?_
  refine zz_get C (zz_lt h0 (by decide)) (zz_c1 h0) rfl in_X1_addCandle_X1 2 (by decide) (List.mem_of_getElem? (i := 1) rfl) rfl dX1_addCandle_1 ?_
  refine zz_bipush (v := 10) C dX1_addCandle_4 (by decide) ?_
  refine zz_icmp_lt (tgt := 11) C dX1_addCandle_6 (by decide) (fun c_1 => ?_) (fun c_1 => ?_)
  · refine zz_aload_n C dX1_addCandle_11 rfl (lv_at hl 0 rfl) ?_
    refine zz_get C (zz_lt h0 (by decide)) (zz_c1 h0) rfl in_X1_addCandle_X1 1 (by decide) (List.mem_of_getElem? (i := 2) rfl) rfl dX1_addCandle_12 ?_
    refine zz_aload_n C dX1_addCandle_15 rfl (lv_at hl 0 rfl) ?_
    refine zz_get C (zz_lt h0 (by decide)) (zz_c1 h0) rfl in_X1_addCandle_X1 2 (by decide) (List.mem_of_getElem? (i := 1) rfl) rfl dX1_addCandle_16 ?_
    refine zz_aald (t := 2) (g := fun i => (a0 + 7) + 1 + 2 * i) C (zz_lt (zz_s1_1 h0) (by decide)) (zz_c18 (zz_s1_1 h0)) rfl dX1_addCandle_19 (fun b_2 => ?_)
    refine zz_callVv (As := []) (rest := []) C (m_X0_strip l E ((a0 + 7) + 1 + 2 * zz_n (zz_i M a0 2)) (zz_e18 (zz_s1_1 h0) b_2) M) (cwV 0 C.1.2.2.2.2 gX1_addCandle_X0_strip rfl rfl rfl hdV_X0_strip ⟨Nat.le_of_ble_eq_true rfl, Nat.le_of_ble_eq_true rfl⟩) (zz_lt (zz_e18 (zz_s1_1 h0) b_2) (by decide)) (zz_c0 (zz_e18 (zz_s1_1 h0) b_2)) rfl rfl hl.1 rfl (Nat.le_of_ble_eq_true rfl) dX1_addCandle_20 (fun _ M_3 => ?_)
    refine zz_aload_n C dX1_addCandle_23 rfl (lv_at hl 0 rfl) ?_
    refine zz_get C (zz_lt h0 (by decide)) (zz_c1 h0) rfl in_X1_addCandle_X1 1 (by decide) (List.mem_of_getElem? (i := 2) rfl) rfl dX1_addCandle_24 ?_
    refine zz_aload_n C dX1_addCandle_27 rfl (lv_at hl 0 rfl) ?_
    refine zz_get C (zz_lt h0 (by decide)) (zz_c1 h0) rfl in_X1_addCandle_X1 2 (by decide) (List.mem_of_getElem? (i := 1) rfl) rfl dX1_addCandle_28 ?_
    refine zz_aald (t := 2) (g := fun i => (a0 + 7) + 1 + 2 * i) C (zz_lt (zz_s1_1 h0) (by decide)) (zz_c18 (zz_s1_1 h0)) rfl dX1_addCandle_31 (fun b_4 => ?_)
    refine zz_iload_n C dX1_addCandle_32 rfl (lv_at hl 1 rfl) ?_
    refine zz_put (M1 := zz_si M_3 ((a0 + 7) + 1 + 2 * zz_n (zz_i M_3 a0 2)) 0 x1) C (zz_lt (zz_e18 (zz_s1_1 h0) b_4) (by decide)) (zz_c0 (zz_e18 (zz_s1_1 h0) b_4)) rfl in_X1_addCandle_X0 tyX0 tyX0_ok nmX0 0 (by decide) (List.mem_of_getElem? (i := 3) rfl) rfl rfl rfl (Nat.le_of_ble_eq_true rfl) (zz_p0_0 (zz_e18 (zz_s1_1 h0) b_4)) zz_cell_si dX1_addCandle_33 (fun M_5 => ?_)
    refine zz_aload_n C dX1_addCandle_36 rfl (lv_at hl 0 rfl) ?_
    refine zz_dup C dX1_addCandle_37 rfl ?_
    refine zz_get C (zz_lt h0 (by decide)) (zz_c1 h0) rfl in_X1_addCandle_X1 2 (by decide) (List.mem_of_getElem? (i := 1) rfl) rfl dX1_addCandle_38 ?_
    refine zz_iconst (v := 1) C dX1_addCandle_41 (by decide) ?_
    refine zz_iadd C dX1_addCandle_42 ?_
    refine zz_put (M1 := zz_si M_5 a0 2 ((zz_i M_5 a0 2) + (1 : Int32))) C (zz_lt h0 (by decide)) (zz_c1 h0) rfl in_X1_addCandle_X1 tyX1 tyX1_ok nmX1 2 (by decide) (List.mem_of_getElem? (i := 1) rfl) rfl rfl rfl (Nat.le_of_ble_eq_true rfl) (zz_p1_2 h0) zz_cell_si dX1_addCandle_43 (fun M_6 => ?_)
    refine zz_iconst (v := 1) C dX1_addCandle_46 (by decide) ?_
    exact zz_zretl C (v := (1 : Int32)) rfl hr dX1_addCandle_47
  · refine zz_iconst (v := 0) C dX1_addCandle_9 (by decide) ?_
    exact zz_zretl C (v := (0 : Int32)) rfl hr dX1_addCandle_10
-- X1_candleGrams ('X1', 'candleGrams', '()I')
theorem in_X1_candleGrams_X1 : ∀ w ∈ u_ws RX1 TX1 3, w ∈ wsX1_candleGrams := fun _ h => List.mem_cons_of_mem _ (List.mem_append_left _ (List.mem_append_right _ h))
theorem hdV_X0_grams : yX0_grams.cls = RX0 ∧ yX0_grams.cls ≠ "java/lang/invoke/MethodHandle" ∧ yX0_grams.cls ≠ "java/lang/invoke/VarHandle" ∧ (parseMethodDescriptor yX0_grams.desc).map (fun d => d.parameters.length) = some 0 := by decide +kernel
def b_X1_candleGrams_4 : Nat → Nat → Int32 → Int32 → zz_M → Option (Int32 × zz_M)
  | 0 => fun _ _ _ _ => none
  | n + 1 => fun a0 x1 x2 M => (if (zz_i M a0 2) ≤ x2 then some (x1, M) else (if zz_in x2 10 = true then zz_bd (f_X0_grams ((a0 + 7) + 1 + 2 * zz_n x2) M) (fun r_3 M_4 => zz_w (x1 + r_3) (fun x1_5 => zz_w (x2 + (1 : Int32)) (fun x2_6 => (b_X1_candleGrams_4 n) a0 x1_5 x2_6 M_4))) else none))
set_option maxRecDepth 100000 in
set_option maxHeartbeats 4000000 in
theorem wb_X1_candleGrams_4 {p : Program} {l : Launch} {e : Env} {s : State} {m : MethodId} {args : Array Value} {below : List Frame} {meth : Method} {c : Code} {E : zz_E} (C : zz_C E RX1 cX1_candleGrams 3 wsX1_candleGrams p s m args meth c) (hr : meth.sig.returnType = (some .int)) : ∀ (n : Nat) (a0 : Nat) (x1 : Int32) (x2 : Int32) (ha0 : zz_sh a0 = 1) (M : zz_M) (ls : Array Slot), lv_has ls 3 [(0, .ref (E.1 + a0)), (1, .int x1), (2, .int x2)] → zz_Z E p l e (zz_rm 2) s m args below meth c (zz_Q (zz_pi E) E below args s) (b_X1_candleGrams_4 n a0 x1 x2 M) M (F0 m 4 ls []) := by
  intro n
  induction n with
  | zero => intro a0 x1 x2 ha0 M ls hl; exact zz_none
  | succ n ih =>
    intro a0 x1 x2 ha0 M ls hl
    rw [b_X1_candleGrams_4]
    refine zz_iload_n C dX1_candleGrams_4 rfl (lv_at hl 2 rfl) ?_
    refine zz_aload_n C dX1_candleGrams_5 rfl (lv_at hl 0 rfl) ?_
    refine zz_get C (zz_lt ha0 (by decide)) (zz_c1 ha0) rfl in_X1_candleGrams_X1 2 (by decide) (List.mem_of_getElem? (i := 1) rfl) rfl dX1_candleGrams_6 ?_
    refine zz_icmp_ge (tgt := 30) C dX1_candleGrams_9 (by decide) (fun c_1 => ?_) (fun c_1 => ?_)
    · refine zz_iload_n C dX1_candleGrams_30 rfl (lv_at hl 1 rfl) ?_
      exact zz_iret C hr dX1_candleGrams_31
    · refine zz_iload_n C dX1_candleGrams_12 rfl (lv_at hl 1 rfl) ?_
      refine zz_aload_n C dX1_candleGrams_13 rfl (lv_at hl 0 rfl) ?_
      refine zz_get C (zz_lt ha0 (by decide)) (zz_c1 ha0) rfl in_X1_candleGrams_X1 1 (by decide) (List.mem_of_getElem? (i := 2) rfl) rfl dX1_candleGrams_14 ?_
      refine zz_iload_n C dX1_candleGrams_17 rfl (lv_at hl 2 rfl) ?_
      refine zz_aald (t := 2) (g := fun i => (a0 + 7) + 1 + 2 * i) C (zz_lt (zz_s1_1 ha0) (by decide)) (zz_c18 (zz_s1_1 ha0)) rfl dX1_candleGrams_18 (fun b_2 => ?_)
      refine zz_callVi (As := []) (rest := [.int x1]) C (m_X0_grams l E ((a0 + 7) + 1 + 2 * zz_n x2) (zz_e18 (zz_s1_1 ha0) b_2) M) (cwV 0 C.1.2.2.2.2 gX1_candleGrams_X0_grams rfl rfl rfl hdV_X0_grams ⟨Nat.le_of_ble_eq_true rfl, Nat.le_of_ble_eq_true rfl⟩) (zz_lt (zz_e18 (zz_s1_1 ha0) b_2) (by decide)) (zz_c0 (zz_e18 (zz_s1_1 ha0) b_2)) rfl rfl hl.1 rfl (Nat.le_of_ble_eq_true rfl) dX1_candleGrams_19 (fun r_3 M_4 => ?_)
      refine zz_iadd C dX1_candleGrams_22 ?_
      refine zz_istore_n C (fun x1_5 => [(1, .int x1_5), (0, .ref (E.1 + a0)), (2, .int x2)]) dX1_candleGrams_23 rfl hl (by decide) (fun _ => rfl) (fun x1_5 ls hl => ?_)
      refine zz_iinc (k9 := 2) (d := 1) C (fun x2_6 => [(2, .int x2_6), (1, .int x1_5), (0, .ref (E.1 + a0))]) dX1_candleGrams_24 hl rfl (by decide) (by decide) (fun _ => rfl) (fun x2_6 ls hl => ?_)
      refine zz_goto (tgt := 4) C dX1_candleGrams_27 (by decide) ?_
      exact ih a0 x1_5 x2_6 ha0 M_4 ls (lv_sub hl [2, 1, 0] rfl)
def f_X1_candleGrams (a0 : Nat) (M : zz_M) : Option (Int32 × zz_M) := b_X1_candleGrams_4  zz_fuel a0 (0 : Int32) (0 : Int32) M
set_option maxRecDepth 100000 in
set_option maxHeartbeats 4000000 in
theorem m_X1_candleGrams (l : Launch) (E : zz_E) (a0 : Nat) (h0 : zz_sh a0 = 1) (M : zz_M) : zz_Met (zz_pi E) l yX1_candleGrams wsX1_candleGrams 2 E [.ref (E.1 + a0)] M (f_X1_candleGrams a0 M) := by
  refine zz_met (cc := cX1_candleGrams) (nL := 3) (ret := (some .int)) (by decide) rfl (Nat.le_of_ble_eq_true rfl) ?_
  intro p e s m below meth c C hr ls hl
  have C : zz_C E RX1 cX1_candleGrams 3 wsX1_candleGrams p s m [.ref (E.1 + a0)].toArray meth c := C
  have hl : lv_has ls 3 [(0, .ref (E.1 + a0))] := hl
  unfold f_X1_candleGrams
  refine zz_iconst (v := 0) C dX1_candleGrams_0 (by decide) ?_
  refine zz_istored_n (lv' := [(1, .int (0 : Int32)), (0, .ref (E.1 + a0))]) C dX1_candleGrams_1 rfl hl (by decide) rfl (fun ls hl => ?_)
  refine zz_iconst (v := 0) C dX1_candleGrams_2 (by decide) ?_
  refine zz_istored_n (lv' := [(2, .int (0 : Int32)), (1, .int (0 : Int32)), (0, .ref (E.1 + a0))]) C dX1_candleGrams_3 rfl hl (by decide) rfl (fun ls hl => ?_)
  exact wb_X1_candleGrams_4 C hr  zz_fuel a0 (0 : Int32) (0 : Int32) h0 M ls (lv_sub hl [2, 1, 0] rfl)
-- X1_layersOfAll ('X1', 'layersOfAll', '()I')
theorem in_X1_layersOfAll_X0 : ∀ w ∈ u_ws RX0 TX0 5, w ∈ wsX1_layersOfAll := fun _ h => List.mem_cons_of_mem _ (List.mem_append_right _ h)
theorem in_X1_layersOfAll_X1 : ∀ w ∈ u_ws RX1 TX1 3, w ∈ wsX1_layersOfAll := fun _ h => List.mem_cons_of_mem _ (List.mem_append_left _ (List.mem_append_right _ h))
def b_X1_layersOfAll_4 : Nat → Nat → Int32 → Int32 → zz_M → Option (Int32 × zz_M)
  | 0 => fun _ _ _ _ => none
  | n + 1 => fun a0 x1 x2 M => (if (zz_i M a0 2) ≤ x2 then some (x1, M) else (if zz_in x2 10 = true then zz_w (x1 + (zz_i M ((a0 + 7) + 1 + 2 * zz_n x2) 1)) (fun x1_3 => zz_w (x2 + (1 : Int32)) (fun x2_4 => (b_X1_layersOfAll_4 n) a0 x1_3 x2_4 M)) else none))
set_option maxRecDepth 100000 in
set_option maxHeartbeats 4000000 in
theorem wb_X1_layersOfAll_4 {p : Program} {l : Launch} {e : Env} {s : State} {m : MethodId} {args : Array Value} {below : List Frame} {meth : Method} {c : Code} {E : zz_E} (C : zz_C E RX1 cX1_layersOfAll 3 wsX1_layersOfAll p s m args meth c) (hr : meth.sig.returnType = (some .int)) : ∀ (n : Nat) (a0 : Nat) (x1 : Int32) (x2 : Int32) (ha0 : zz_sh a0 = 1) (M : zz_M) (ls : Array Slot), lv_has ls 3 [(0, .ref (E.1 + a0)), (1, .int x1), (2, .int x2)] → zz_Z E p l e (zz_rm 1) s m args below meth c (zz_Q (zz_pi E) E below args s) (b_X1_layersOfAll_4 n a0 x1 x2 M) M (F0 m 4 ls []) := by
  intro n
  induction n with
  | zero => intro a0 x1 x2 ha0 M ls hl; exact zz_none
  | succ n ih =>
    intro a0 x1 x2 ha0 M ls hl
    rw [b_X1_layersOfAll_4]
    refine zz_iload_n C dX1_layersOfAll_4 rfl (lv_at hl 2 rfl) ?_
    refine zz_aload_n C dX1_layersOfAll_5 rfl (lv_at hl 0 rfl) ?_
    refine zz_get C (zz_lt ha0 (by decide)) (zz_c1 ha0) rfl in_X1_layersOfAll_X1 2 (by decide) (List.mem_of_getElem? (i := 1) rfl) rfl dX1_layersOfAll_6 ?_
    refine zz_icmp_ge (tgt := 30) C dX1_layersOfAll_9 (by decide) (fun c_1 => ?_) (fun c_1 => ?_)
    · refine zz_iload_n C dX1_layersOfAll_30 rfl (lv_at hl 1 rfl) ?_
      exact zz_iret C hr dX1_layersOfAll_31
    · refine zz_iload_n C dX1_layersOfAll_12 rfl (lv_at hl 1 rfl) ?_
      refine zz_aload_n C dX1_layersOfAll_13 rfl (lv_at hl 0 rfl) ?_
      refine zz_get C (zz_lt ha0 (by decide)) (zz_c1 ha0) rfl in_X1_layersOfAll_X1 1 (by decide) (List.mem_of_getElem? (i := 2) rfl) rfl dX1_layersOfAll_14 ?_
      refine zz_iload_n C dX1_layersOfAll_17 rfl (lv_at hl 2 rfl) ?_
      refine zz_aald (t := 2) (g := fun i => (a0 + 7) + 1 + 2 * i) C (zz_lt (zz_s1_1 ha0) (by decide)) (zz_c18 (zz_s1_1 ha0)) rfl dX1_layersOfAll_18 (fun b_2 => ?_)
      refine zz_get C (zz_lt (zz_e18 (zz_s1_1 ha0) b_2) (by decide)) (zz_c0 (zz_e18 (zz_s1_1 ha0) b_2)) rfl in_X1_layersOfAll_X0 1 (by decide) (List.mem_of_getElem? (i := 3) rfl) rfl dX1_layersOfAll_19 ?_
      refine zz_iadd C dX1_layersOfAll_22 ?_
      refine zz_istore_n C (fun x1_3 => [(1, .int x1_3), (0, .ref (E.1 + a0)), (2, .int x2)]) dX1_layersOfAll_23 rfl hl (by decide) (fun _ => rfl) (fun x1_3 ls hl => ?_)
      refine zz_iinc (k9 := 2) (d := 1) C (fun x2_4 => [(2, .int x2_4), (1, .int x1_3), (0, .ref (E.1 + a0))]) dX1_layersOfAll_24 hl rfl (by decide) (by decide) (fun _ => rfl) (fun x2_4 ls hl => ?_)
      refine zz_goto (tgt := 4) C dX1_layersOfAll_27 (by decide) ?_
      exact ih a0 x1_3 x2_4 ha0 M ls (lv_sub hl [2, 1, 0] rfl)
def f_X1_layersOfAll (a0 : Nat) (M : zz_M) : Option (Int32 × zz_M) := b_X1_layersOfAll_4  zz_fuel a0 (0 : Int32) (0 : Int32) M
set_option maxRecDepth 100000 in
set_option maxHeartbeats 4000000 in
theorem m_X1_layersOfAll (l : Launch) (E : zz_E) (a0 : Nat) (h0 : zz_sh a0 = 1) (M : zz_M) : zz_Met (zz_pi E) l yX1_layersOfAll wsX1_layersOfAll 1 E [.ref (E.1 + a0)] M (f_X1_layersOfAll a0 M) := by
  refine zz_met (cc := cX1_layersOfAll) (nL := 3) (ret := (some .int)) (by decide) rfl (Nat.le_of_ble_eq_true rfl) ?_
  intro p e s m below meth c C hr ls hl
  have C : zz_C E RX1 cX1_layersOfAll 3 wsX1_layersOfAll p s m [.ref (E.1 + a0)].toArray meth c := C
  have hl : lv_has ls 3 [(0, .ref (E.1 + a0))] := hl
  unfold f_X1_layersOfAll
  refine zz_iconst (v := 0) C dX1_layersOfAll_0 (by decide) ?_
  refine zz_istored_n (lv' := [(1, .int (0 : Int32)), (0, .ref (E.1 + a0))]) C dX1_layersOfAll_1 rfl hl (by decide) rfl (fun ls hl => ?_)
  refine zz_iconst (v := 0) C dX1_layersOfAll_2 (by decide) ?_
  refine zz_istored_n (lv' := [(2, .int (0 : Int32)), (1, .int (0 : Int32)), (0, .ref (E.1 + a0))]) C dX1_layersOfAll_3 rfl hl (by decide) rfl (fun ls hl => ?_)
  exact wb_X1_layersOfAll_4 C hr  zz_fuel a0 (0 : Int32) (0 : Int32) h0 M ls (lv_sub hl [2, 1, 0] rfl)
