-- X8_minutesBehind ('X8', 'minutesBehind', '(LFortyDips$Candle;ILFortyDips$Vat;I)I')
theorem in_X8_minutesBehind_X0 : ∀ w ∈ u_ws RX0 TX0 5, w ∈ wsX8_minutesBehind := fun _ h => List.mem_cons_of_mem _ (List.mem_append_left _ (List.mem_append_right _ h))
theorem in_X8_minutesBehind_X8 : ∀ w ∈ u_ws RX8 TX8 11, w ∈ wsX8_minutesBehind := fun _ h => List.mem_cons_of_mem _ (List.mem_append_left _ (List.mem_append_left _ (List.mem_append_right _ h)))
def b_X8_minutesBehind_27 : Nat → Nat → Int32 → Int32 → zz_M → Option (Int32 × zz_M)
  | 0 => fun _ _ _ _ => none
  | n + 1 => fun a0 x4 x5 M => (if x4 ≤ x5 then zz_bd (f_X0_minutes 63 M) (fun r_5 M_6 => some (r_5, M_6)) else zz_bd (f_X0_dipInto 63 65 M) (fun _ M_7 => zz_w (x5 + (1 : Int32)) (fun x5_8 => (b_X8_minutesBehind_27 n) a0 x4 x5_8 M_7)))
set_option maxRecDepth 100000 in
set_option maxHeartbeats 4000000 in
theorem wb_X8_minutesBehind_27 {p : Program} {l : Launch} {e : Env} {s : State} {m : MethodId} {args : Array Value} {below : List Frame} {meth : Method} {c : Code} {E : zz_E} (C : zz_C E RX8 cX8_minutesBehind 6 wsX8_minutesBehind p s m args meth c) (hr : meth.sig.returnType = (some .int)) : ∀ (n : Nat) (a0 : Nat) (x4 : Int32) (x5 : Int32) (ha0 : zz_sh a0 = 8) (M : zz_M) (ls : Array Slot), lv_has ls 6 [(0, .ref (E.1 + a0)), (4, .int x4), (5, .int x5)] → zz_Z E p l e (zz_rm 4) s m args below meth c (zz_Q (zz_pi E) E below args s) (b_X8_minutesBehind_27 n a0 x4 x5 M) M (F0 m 27 ls []) := by
  intro n
  induction n with
  | zero => intro a0 x4 x5 ha0 M ls hl; exact zz_none
  | succ n ih =>
    intro a0 x4 x5 ha0 M ls hl
    rw [b_X8_minutesBehind_27]
    refine zz_iload C dX8_minutesBehind_27 (lv_at hl 2 rfl) ?_
    refine zz_iload C dX8_minutesBehind_29 (lv_at hl 1 rfl) ?_
    refine zz_icmp_ge (tgt := 51) C dX8_minutesBehind_31 (by decide) (fun c_4 => ?_) (fun c_4 => ?_)
    · refine zz_aload_n C dX8_minutesBehind_51 rfl (lv_at hl 0 rfl) ?_
      refine zz_get C (zz_lt ha0 (by decide)) (zz_c8 ha0) rfl in_X8_minutesBehind_X8 4 (by decide) (List.mem_of_getElem? (i := 1) rfl) rfl dX8_minutesBehind_52 ?_
      refine zz_callVi (As := []) (rest := []) C (m_X0_minutes l E 63 (zz_s8_4 ha0) M) (cwV 0 C.1.2.2.2.2 gX8_minutesBehind_X0_minutes rfl rfl rfl hdV_X0_minutes ⟨Nat.le_of_ble_eq_true rfl, Nat.le_of_ble_eq_true rfl⟩) (zz_lt (zz_s8_4 ha0) (by decide)) (zz_c0 (zz_s8_4 ha0)) rfl rfl hl.1 rfl (Nat.le_of_ble_eq_true rfl) dX8_minutesBehind_55 (fun r_5 M_6 => ?_)
      exact zz_iret C hr dX8_minutesBehind_58
    · refine zz_aload_n C dX8_minutesBehind_34 rfl (lv_at hl 0 rfl) ?_
      refine zz_get C (zz_lt ha0 (by decide)) (zz_c8 ha0) rfl in_X8_minutesBehind_X8 4 (by decide) (List.mem_of_getElem? (i := 1) rfl) rfl dX8_minutesBehind_35 ?_
      refine zz_aload_n C dX8_minutesBehind_38 rfl (lv_at hl 0 rfl) ?_
      refine zz_get C (zz_lt ha0 (by decide)) (zz_c8 ha0) rfl in_X8_minutesBehind_X8 5 (by decide) (List.mem_of_getElem? (i := 3) rfl) rfl dX8_minutesBehind_39 ?_
      refine zz_callVv (As := [.ref (E.1 + 65)]) (rest := []) C (m_X0_dipInto l E 63 65 (zz_s8_4 ha0) (zz_s8_5 ha0) M) (cwV 1 C.1.2.2.2.2 gX8_minutesBehind_X0_dipInto rfl rfl rfl hdV_X0_dipInto ⟨Nat.le_of_ble_eq_true rfl, Nat.le_of_ble_eq_true rfl⟩) (zz_lt (zz_s8_4 ha0) (by decide)) (zz_c0 (zz_s8_4 ha0)) rfl rfl hl.1 rfl (Nat.le_of_ble_eq_true rfl) dX8_minutesBehind_42 (fun _ M_7 => ?_)
      refine zz_iinc (k9 := 2) (d := 1) C (fun x5_8 => [(5, .int x5_8), (0, .ref (E.1 + a0)), (4, .int x4)]) dX8_minutesBehind_45 hl rfl (by decide) (by decide) (fun _ => rfl) (fun x5_8 ls hl => ?_)
      refine zz_goto (tgt := 27) C dX8_minutesBehind_48 (by decide) ?_
      exact ih a0 x4 x5_8 ha0 M_7 ls (lv_sub hl [1, 2, 0] rfl)
def f_X8_minutesBehind (a0 : Nat) (a1 : Nat) (x2 : Int32) (a3 : Nat) (x4 : Int32) (M : zz_M) : Option (Int32 × zz_M) := zz_bd (f_X0_become 63 a1 M) (fun _ M_1 => zz_w (zz_si M_1 63 0 x2) (fun M_2 => zz_bd (f_X6_become 65 a3 M_2) (fun _ M_3 => b_X8_minutesBehind_27  zz_fuel a0 x4 (0 : Int32) M_3)))
set_option maxRecDepth 100000 in
set_option maxHeartbeats 4000000 in
theorem m_X8_minutesBehind (l : Launch) (E : zz_E) (a0 : Nat) (a1 : Nat) (x2 : Int32) (a3 : Nat) (x4 : Int32) (h0 : zz_sh a0 = 8) (h1 : zz_sh a1 = 0) (h3 : zz_sh a3 = 6) (M : zz_M) : zz_Met (zz_pi E) l yX8_minutesBehind wsX8_minutesBehind 4 E [.ref (E.1 + a0), .ref (E.1 + a1), .int x2, .ref (E.1 + a3), .int x4] M (f_X8_minutesBehind a0 a1 x2 a3 x4 M) := by
  refine zz_met (cc := cX8_minutesBehind) (nL := 6) (ret := (some .int)) (by decide) rfl (Nat.le_of_ble_eq_true rfl) ?_
  intro p e s m below meth c C hr ls hl
  have C : zz_C E RX8 cX8_minutesBehind 6 wsX8_minutesBehind p s m [.ref (E.1 + a0), .ref (E.1 + a1), .int x2, .ref (E.1 + a3), .int x4].toArray meth c := C
  have hl : lv_has ls 6 [(0, .ref (E.1 + a0)), (1, .ref (E.1 + a1)), (2, .int x2), (3, .ref (E.1 + a3)), (4, .int x4)] := hl
  unfold f_X8_minutesBehind
  refine zz_aload_n C dX8_minutesBehind_0 rfl (lv_at hl 0 rfl) ?_
  refine zz_get C (zz_lt h0 (by decide)) (zz_c8 h0) rfl in_X8_minutesBehind_X8 4 (by decide) (List.mem_of_getElem? (i := 1) rfl) rfl dX8_minutesBehind_1 ?_
  refine zz_aload_n C dX8_minutesBehind_4 rfl (lv_at hl 1 rfl) ?_
  refine zz_callVv (As := [.ref (E.1 + a1)]) (rest := []) C (m_X0_become l E 63 a1 (zz_s8_4 h0) h1 M) (cwV 1 C.1.2.2.2.2 gX8_minutesBehind_X0_become rfl rfl rfl hdV_X0_become ⟨Nat.le_of_ble_eq_true rfl, Nat.le_of_ble_eq_true rfl⟩) (zz_lt (zz_s8_4 h0) (by decide)) (zz_c0 (zz_s8_4 h0)) rfl rfl hl.1 rfl (Nat.le_of_ble_eq_true rfl) dX8_minutesBehind_5 (fun _ M_1 => ?_)
  refine zz_aload_n C dX8_minutesBehind_8 rfl (lv_at hl 0 rfl) ?_
  refine zz_get C (zz_lt h0 (by decide)) (zz_c8 h0) rfl in_X8_minutesBehind_X8 4 (by decide) (List.mem_of_getElem? (i := 1) rfl) rfl dX8_minutesBehind_9 ?_
  refine zz_iload_n C dX8_minutesBehind_12 rfl (lv_at hl 2 rfl) ?_
  refine zz_put (M1 := zz_si M_1 63 0 x2) C (zz_lt (zz_s8_4 h0) (by decide)) (zz_c0 (zz_s8_4 h0)) rfl in_X8_minutesBehind_X0 tyX0 tyX0_ok nmX0 0 (by decide) (List.mem_of_getElem? (i := 2) rfl) rfl rfl rfl (Nat.le_of_ble_eq_true rfl) (zz_p0_0 (zz_s8_4 h0)) zz_cell_si dX8_minutesBehind_13 (fun M_2 => ?_)
  refine zz_aload_n C dX8_minutesBehind_16 rfl (lv_at hl 0 rfl) ?_
  refine zz_get C (zz_lt h0 (by decide)) (zz_c8 h0) rfl in_X8_minutesBehind_X8 5 (by decide) (List.mem_of_getElem? (i := 3) rfl) rfl dX8_minutesBehind_17 ?_
  refine zz_aload_n C dX8_minutesBehind_20 rfl (lv_at hl 3 rfl) ?_
  refine zz_callVv (As := [.ref (E.1 + a3)]) (rest := []) C (m_X6_become l E 65 a3 (zz_s8_5 h0) h3 M_2) (cwV 1 C.1.2.2.2.2 gX8_minutesBehind_X6_become rfl rfl rfl hdV_X6_become ⟨Nat.le_of_ble_eq_true rfl, Nat.le_of_ble_eq_true rfl⟩) (zz_lt (zz_s8_5 h0) (by decide)) (zz_c6 (zz_s8_5 h0)) rfl rfl hl.1 rfl (Nat.le_of_ble_eq_true rfl) dX8_minutesBehind_21 (fun _ M_3 => ?_)
  refine zz_iconst (v := 0) C dX8_minutesBehind_24 (by decide) ?_
  refine zz_istored (lv' := [(5, .int (0 : Int32)), (0, .ref (E.1 + a0)), (1, .ref (E.1 + a1)), (2, .int x2), (3, .ref (E.1 + a3)), (4, .int x4)]) C dX8_minutesBehind_25 hl (by decide) rfl (fun ls hl => ?_)
  exact wb_X8_minutesBehind_27 C hr  zz_fuel a0 x4 (0 : Int32) h0 M_3 ls (lv_sub hl [1, 5, 0] rfl)
-- X8_fewestDips ('X8', 'fewestDips', '(LFortyDips$Candle;I)I')
theorem in_X8_fewestDips_X1 : ∀ w ∈ u_ws RX1 TX1 3, w ∈ wsX8_fewestDips := fun _ h => List.mem_cons_of_mem _ (List.mem_append_left _ (List.mem_append_left _ (List.mem_append_left _ (List.mem_append_left _ (List.mem_append_right _ h)))))
theorem in_X8_fewestDips_X2 : ∀ w ∈ u_ws RX2 TX2 7, w ∈ wsX8_fewestDips := fun _ h => List.mem_cons_of_mem _ (List.mem_append_left _ (List.mem_append_left _ (List.mem_append_left _ (List.mem_append_right _ h))))
theorem in_X8_fewestDips_X8 : ∀ w ∈ u_ws RX8 TX8 11, w ∈ wsX8_fewestDips := fun _ h => List.mem_cons_of_mem _ (List.mem_append_left _ (List.mem_append_left _ (List.mem_append_left _ (List.mem_append_left _ (List.mem_append_left _ (List.mem_append_right _ h))))))
theorem hdV_X2_walk : yX2_walk.cls = RX2 ∧ yX2_walk.cls ≠ "java/lang/invoke/MethodHandle" ∧ yX2_walk.cls ≠ "java/lang/invoke/VarHandle" ∧ (parseMethodDescriptor yX2_walk.desc).map (fun d => d.parameters.length) = some 4 := by decide +kernel
def b_X8_fewestDips_2 : Nat → Nat → Nat → Int32 → Int32 → zz_M → Option (Int32 × zz_M)
  | 0 => fun _ _ _ _ _ => none
  | n + 1 => fun a0 a1 x2 x3 M => (if (6 : Int32) < x3 then some ((-1 : Int32), M) else zz_bd (f_X2_walk 66 (1 + 1) a1 x3 x2 M) (fun _ M_2 => (if (zz_i M_2 66 6) < 0 then zz_w (x3 + (1 : Int32)) (fun x3_4 => (b_X8_fewestDips_2 n) a0 a1 x2 x3_4 M_2) else some (x3, M_2))))
set_option maxRecDepth 100000 in
set_option maxHeartbeats 4000000 in
theorem wb_X8_fewestDips_2 {p : Program} {l : Launch} {e : Env} {s : State} {m : MethodId} {args : Array Value} {below : List Frame} {meth : Method} {c : Code} {E : zz_E} (C : zz_C E RX8 cX8_fewestDips 4 wsX8_fewestDips p s m args meth c) (hr : meth.sig.returnType = (some .int)) : ∀ (n : Nat) (a0 : Nat) (a1 : Nat) (x2 : Int32) (x3 : Int32) (ha0 : zz_sh a0 = 8) (ha1 : zz_sh a1 = 0) (M : zz_M) (ls : Array Slot), lv_has ls 4 [(0, .ref (E.1 + a0)), (1, .ref (E.1 + a1)), (2, .int x2), (3, .int x3)] → zz_Z E p l e (zz_rm 15) s m args below meth c (zz_Q (zz_pi E) E below args s) (b_X8_fewestDips_2 n a0 a1 x2 x3 M) M (F0 m 2 ls []) := by
  intro n
  induction n with
  | zero => intro a0 a1 x2 x3 ha0 ha1 M ls hl; exact zz_none
  | succ n ih =>
    intro a0 a1 x2 x3 ha0 ha1 M ls hl
    rw [b_X8_fewestDips_2]
    refine zz_iload_n C dX8_fewestDips_2 rfl (lv_at hl 3 rfl) ?_
    refine zz_bipush (v := 6) C dX8_fewestDips_3 (by decide) ?_
    refine zz_icmp_gt (tgt := 43) C dX8_fewestDips_5 (by decide) (fun c_1 => ?_) (fun c_1 => ?_)
    · refine zz_iconst (v := -1) C dX8_fewestDips_43 (by decide) ?_
      exact zz_iret C hr dX8_fewestDips_44
    · refine zz_aload_n C dX8_fewestDips_8 rfl (lv_at hl 0 rfl) ?_
      refine zz_get C (zz_lt ha0 (by decide)) (zz_c8 ha0) rfl in_X8_fewestDips_X8 6 (by decide) (List.mem_of_getElem? (i := 1) rfl) rfl dX8_fewestDips_9 ?_
      refine zz_aload_n C dX8_fewestDips_12 rfl (lv_at hl 0 rfl) ?_
      refine zz_get C (zz_lt ha0 (by decide)) (zz_c8 ha0) rfl in_X8_fewestDips_X8 0 (by decide) (List.mem_of_getElem? (i := 2) rfl) rfl dX8_fewestDips_13 ?_
      refine zz_get C (zz_lt (zz_s8_0 ha0) (by decide)) (zz_c1 (zz_s8_0 ha0)) rfl in_X8_fewestDips_X1 0 (by decide) (List.mem_of_getElem? (i := 3) rfl) rfl dX8_fewestDips_16 ?_
      refine zz_aload_n C dX8_fewestDips_19 rfl (lv_at hl 1 rfl) ?_
      refine zz_iload_n C dX8_fewestDips_20 rfl (lv_at hl 3 rfl) ?_
      refine zz_iload_n C dX8_fewestDips_21 rfl (lv_at hl 2 rfl) ?_
      refine zz_callVv (As := [.ref (E.1 + (1 + 1)), .ref (E.1 + a1), .int x3, .int x2]) (rest := []) C (m_X2_walk l E 66 (1 + 1) a1 x3 x2 (zz_s8_6 ha0) (zz_s1_0 (zz_s8_0 ha0)) ha1 M) (cwV 4 C.1.2.2.2.2 gX8_fewestDips_X2_walk rfl rfl rfl hdV_X2_walk ⟨Nat.le_of_ble_eq_true rfl, Nat.le_of_ble_eq_true rfl⟩) (zz_lt (zz_s8_6 ha0) (by decide)) (zz_c2 (zz_s8_6 ha0)) rfl rfl hl.1 rfl (Nat.le_of_ble_eq_true rfl) dX8_fewestDips_22 (fun _ M_2 => ?_)
      refine zz_aload_n C dX8_fewestDips_25 rfl (lv_at hl 0 rfl) ?_
      refine zz_get C (zz_lt ha0 (by decide)) (zz_c8 ha0) rfl in_X8_fewestDips_X8 6 (by decide) (List.mem_of_getElem? (i := 1) rfl) rfl dX8_fewestDips_26 ?_
      refine zz_get C (zz_lt (zz_s8_6 ha0) (by decide)) (zz_c2 (zz_s8_6 ha0)) rfl in_X8_fewestDips_X2 6 (by decide) (List.mem_of_getElem? (i := 4) rfl) rfl dX8_fewestDips_29 ?_
      refine zz_if_lt (tgt := 37) C dX8_fewestDips_32 (by decide) (fun c_3 => ?_) (fun c_3 => ?_)
      · refine zz_iinc (k9 := 3) (d := 1) C (fun x3_4 => [(3, .int x3_4), (0, .ref (E.1 + a0)), (1, .ref (E.1 + a1)), (2, .int x2)]) dX8_fewestDips_37 hl rfl (by decide) (by decide) (fun _ => rfl) (fun x3_4 ls hl => ?_)
        refine zz_goto (tgt := 2) C dX8_fewestDips_40 (by decide) ?_
        exact ih a0 a1 x2 x3_4 ha0 ha1 M_2 ls (lv_sub hl [1, 2, 3, 0] rfl)
      · refine zz_iload_n C dX8_fewestDips_35 rfl (lv_at hl 3 rfl) ?_
        exact zz_iret C hr dX8_fewestDips_36
def f_X8_fewestDips (a0 : Nat) (a1 : Nat) (x2 : Int32) (M : zz_M) : Option (Int32 × zz_M) := b_X8_fewestDips_2  zz_fuel a0 a1 x2 (0 : Int32) M
set_option maxRecDepth 100000 in
set_option maxHeartbeats 4000000 in
theorem m_X8_fewestDips (l : Launch) (E : zz_E) (a0 : Nat) (a1 : Nat) (x2 : Int32) (h0 : zz_sh a0 = 8) (h1 : zz_sh a1 = 0) (M : zz_M) : zz_Met (zz_pi E) l yX8_fewestDips wsX8_fewestDips 15 E [.ref (E.1 + a0), .ref (E.1 + a1), .int x2] M (f_X8_fewestDips a0 a1 x2 M) := by
  refine zz_met (cc := cX8_fewestDips) (nL := 4) (ret := (some .int)) (by decide) rfl (Nat.le_of_ble_eq_true rfl) ?_
  intro p e s m below meth c C hr ls hl
  have C : zz_C E RX8 cX8_fewestDips 4 wsX8_fewestDips p s m [.ref (E.1 + a0), .ref (E.1 + a1), .int x2].toArray meth c := C
  have hl : lv_has ls 4 [(0, .ref (E.1 + a0)), (1, .ref (E.1 + a1)), (2, .int x2)] := hl
  unfold f_X8_fewestDips
  refine zz_iconst (v := 0) C dX8_fewestDips_0 (by decide) ?_
  refine zz_istored_n (lv' := [(3, .int (0 : Int32)), (0, .ref (E.1 + a0)), (1, .ref (E.1 + a1)), (2, .int x2)]) C dX8_fewestDips_1 rfl hl (by decide) rfl (fun ls hl => ?_)
  exact wb_X8_fewestDips_2 C hr  zz_fuel a0 a1 x2 (0 : Int32) h0 h1 M ls (lv_sub hl [1, 2, 3, 0] rfl)
-- X8_burns ('X8', 'burns', '(III)I')
theorem in_X8_burns_X0 : ∀ w ∈ u_ws RX0 TX0 5, w ∈ wsX8_burns := fun _ h => List.mem_cons_of_mem _ (List.mem_append_left _ (List.mem_append_left _ (List.mem_append_right _ h)))
theorem in_X8_burns_X1 : ∀ w ∈ u_ws RX1 TX1 3, w ∈ wsX8_burns := fun _ h => List.mem_cons_of_mem _ (List.mem_append_left _ (List.mem_append_left _ (List.mem_append_left _ (List.mem_append_right _ h))))
theorem in_X8_burns_X7 : ∀ w ∈ u_ws RX7 TX7 4, w ∈ wsX8_burns := fun _ h => List.mem_cons_of_mem _ (List.mem_append_left _ (List.mem_append_right _ h))
theorem in_X8_burns_X8 : ∀ w ∈ u_ws RX8 TX8 11, w ∈ wsX8_burns := fun _ h => List.mem_cons_of_mem _ (List.mem_append_left _ (List.mem_append_left _ (List.mem_append_left _ (List.mem_append_left _ (List.mem_append_right _ h)))))
theorem hdV_X8_minutesBehind : yX8_minutesBehind.cls = RX8 ∧ yX8_minutesBehind.cls ≠ "java/lang/invoke/MethodHandle" ∧ yX8_minutesBehind.cls ≠ "java/lang/invoke/VarHandle" ∧ (parseMethodDescriptor yX8_minutesBehind.desc).map (fun d => d.parameters.length) = some 4 := by decide +kernel
def f_X8_burns (a0 : Nat) (x1 : Int32) (x2 : Int32) (x3 : Int32) (M : zz_M) : Option (Int32 × zz_M) := zz_bd (f_X1_has 1 x1 M) (fun r_1 M_2 => (if r_1 = 0 then zz_bd (f_X8_finding a0 (-1000000001 : Int32) M_2) (fun r_4 M_5 => some (r_4, M_5)) else zz_bd (f_X8_isVat x2 M_2) (fun r_6 M_7 => (if r_6 = 0 then zz_bd (f_X8_finding a0 (-1000000001 : Int32) M_7) (fun r_9 M_10 => some (r_9, M_10)) else zz_bd (f_X8_within x3 (0 : Int32) (40 : Int32) M_7) (fun r_11 M_12 => (if r_11 = 0 then zz_bd (f_X8_finding a0 (-1000000001 : Int32) M_12) (fun r_18 M_19 => some (r_18, M_19)) else (if zz_in x1 10 = true then (if zz_in x2 4 = true then zz_bd (f_X8_minutesBehind a0 ((1 + 7) + 1 + 2 * zz_n x1) (zz_i M_12 ((1 + 7) + 1 + 2 * zz_n x1) 0) (((1 + 1) + 1) + 1 + zz_n x2) x3 M_12) (fun r_16 M_17 => some (r_16, M_17)) else none) else none)))))))
set_option maxRecDepth 100000 in
set_option maxHeartbeats 4000000 in
theorem m_X8_burns (l : Launch) (E : zz_E) (a0 : Nat) (x1 : Int32) (x2 : Int32) (x3 : Int32) (h0 : zz_sh a0 = 8) (M : zz_M) : zz_Met (zz_pi E) l yX8_burns wsX8_burns 5 E [.ref (E.1 + a0), .int x1, .int x2, .int x3] M (f_X8_burns a0 x1 x2 x3 M) := by
  refine zz_met (cc := cX8_burns) (nL := 5) (ret := (some .int)) (by decide) rfl (Nat.le_of_ble_eq_true rfl) ?_
  intro p e s m below meth c C hr ls hl
  have C : zz_C E RX8 cX8_burns 5 wsX8_burns p s m [.ref (E.1 + a0), .int x1, .int x2, .int x3].toArray meth c := C
  have hl : lv_has ls 5 [(0, .ref (E.1 + a0)), (1, .int x1), (2, .int x2), (3, .int x3)] := hl
  unfold f_X8_burns
  refine zz_aload_n C dX8_burns_0 rfl (lv_at hl 0 rfl) ?_
  refine zz_get C (zz_lt h0 (by decide)) (zz_c8 h0) rfl in_X8_burns_X8 0 (by decide) (List.mem_of_getElem? (i := 1) rfl) rfl dX8_burns_1 ?_
  refine zz_iload_n C dX8_burns_4 rfl (lv_at hl 1 rfl) ?_
  refine zz_callVi (As := [.int x1]) (rest := []) C (m_X1_has l E 1 x1 (zz_s8_0 h0) M) (cwV 1 C.1.2.2.2.2 gX8_burns_X1_has rfl rfl rfl hdV_X1_has ⟨Nat.le_of_ble_eq_true rfl, Nat.le_of_ble_eq_true rfl⟩) (zz_lt (zz_s8_0 h0) (by decide)) (zz_c1 (zz_s8_0 h0)) rfl rfl hl.1 rfl (Nat.le_of_ble_eq_true rfl) dX8_burns_5 (fun r_1 M_2 => ?_)
  refine zz_if_eq (tgt := 28) C dX8_burns_8 (by decide) (fun c_3 => ?_) (fun c_3 => ?_)
  · refine zz_aload_n C dX8_burns_28 rfl (lv_at hl 0 rfl) ?_
    refine zz_ldc (v := -1000000001) C (List.mem_of_getElem? (i := 2) rfl) dX8_burns_29 ?_
    refine zz_callVi (As := [.int (-1000000001 : Int32)]) (rest := []) C (m_X8_finding l E a0 (-1000000001 : Int32) h0 M_2) (cwV 1 C.1.2.2.2.2 gX8_burns_X8_finding rfl rfl rfl hdV_X8_finding ⟨Nat.le_of_ble_eq_true rfl, Nat.le_of_ble_eq_true rfl⟩) (zz_lt h0 (by decide)) (zz_c8 h0) rfl rfl hl.1 rfl (Nat.le_of_ble_eq_true rfl) dX8_burns_31 (fun r_4 M_5 => ?_)
    exact zz_iret C hr dX8_burns_34
  · refine zz_iload_n C dX8_burns_11 rfl (lv_at hl 2 rfl) ?_
    refine zz_callSi (As := [.int x2]) (rest := []) C (m_X8_isVat l E x2  M_2) (va_cwS 1 C.1.2.2.2.2 gX8_burns_X8_isVat rfl rfl rfl hdS_X8_isVat ⟨Nat.le_of_ble_eq_true rfl, Nat.le_of_ble_eq_true rfl⟩) rfl hl.1 rfl (Nat.le_of_ble_eq_true rfl) dX8_burns_12 (fun r_6 M_7 => ?_)
    refine zz_if_eq (tgt := 28) C dX8_burns_15 (by decide) (fun c_8 => ?_) (fun c_8 => ?_)
    · refine zz_aload_n C dX8_burns_28 rfl (lv_at hl 0 rfl) ?_
      refine zz_ldc (v := -1000000001) C (List.mem_of_getElem? (i := 2) rfl) dX8_burns_29 ?_
      refine zz_callVi (As := [.int (-1000000001 : Int32)]) (rest := []) C (m_X8_finding l E a0 (-1000000001 : Int32) h0 M_7) (cwV 1 C.1.2.2.2.2 gX8_burns_X8_finding rfl rfl rfl hdV_X8_finding ⟨Nat.le_of_ble_eq_true rfl, Nat.le_of_ble_eq_true rfl⟩) (zz_lt h0 (by decide)) (zz_c8 h0) rfl rfl hl.1 rfl (Nat.le_of_ble_eq_true rfl) dX8_burns_31 (fun r_9 M_10 => ?_)
      exact zz_iret C hr dX8_burns_34
    · refine zz_iload_n C dX8_burns_18 rfl (lv_at hl 3 rfl) ?_
      refine zz_iconst (v := 0) C dX8_burns_19 (by decide) ?_
      refine zz_bipush (v := 40) C dX8_burns_20 (by decide) ?_
      refine zz_callSi (As := [.int x3, .int (0 : Int32), .int (40 : Int32)]) (rest := []) C (m_X8_within l E x3 (0 : Int32) (40 : Int32)  M_7) (va_cwS 3 C.1.2.2.2.2 gX8_burns_X8_within rfl rfl rfl hdS_X8_within ⟨Nat.le_of_ble_eq_true rfl, Nat.le_of_ble_eq_true rfl⟩) rfl hl.1 rfl (Nat.le_of_ble_eq_true rfl) dX8_burns_22 (fun r_11 M_12 => ?_)
      refine zz_if_ne (tgt := 35) C dX8_burns_25 (by decide) (fun c_13 => ?_) (fun c_13 => ?_)
      · refine zz_aload_n C dX8_burns_28 rfl (lv_at hl 0 rfl) ?_
        refine zz_ldc (v := -1000000001) C (List.mem_of_getElem? (i := 2) rfl) dX8_burns_29 ?_
        refine zz_callVi (As := [.int (-1000000001 : Int32)]) (rest := []) C (m_X8_finding l E a0 (-1000000001 : Int32) h0 M_12) (cwV 1 C.1.2.2.2.2 gX8_burns_X8_finding rfl rfl rfl hdV_X8_finding ⟨Nat.le_of_ble_eq_true rfl, Nat.le_of_ble_eq_true rfl⟩) (zz_lt h0 (by decide)) (zz_c8 h0) rfl rfl hl.1 rfl (Nat.le_of_ble_eq_true rfl) dX8_burns_31 (fun r_18 M_19 => ?_)
        exact zz_iret C hr dX8_burns_34
      · refine zz_aload_n C dX8_burns_35 rfl (lv_at hl 0 rfl) ?_
        refine zz_get C (zz_lt h0 (by decide)) (zz_c8 h0) rfl in_X8_burns_X8 0 (by decide) (List.mem_of_getElem? (i := 1) rfl) rfl dX8_burns_36 ?_
        refine zz_get C (zz_lt (zz_s8_0 h0) (by decide)) (zz_c1 (zz_s8_0 h0)) rfl in_X8_burns_X1 1 (by decide) (List.mem_of_getElem? (i := 3) rfl) rfl dX8_burns_39 ?_
        refine zz_iload_n C dX8_burns_42 rfl (lv_at hl 1 rfl) ?_
        refine zz_aald (t := 2) (g := fun i => (1 + 7) + 1 + 2 * i) C (zz_lt (zz_s1_1 (zz_s8_0 h0)) (by decide)) (zz_c18 (zz_s1_1 (zz_s8_0 h0))) rfl dX8_burns_43 (fun b_14 => ?_)
        refine zz_astore (lv' := [(4, .ref (E.1 + ((1 + 7) + 1 + 2 * zz_n x1))), (0, .ref (E.1 + a0)), (1, .int x1), (2, .int x2), (3, .int x3)]) C dX8_burns_44 hl (by decide) rfl (fun ls hl => ?_)
        refine zz_aload_n C dX8_burns_46 rfl (lv_at hl 1 rfl) ?_
        refine zz_aload C dX8_burns_47 (lv_at hl 0 rfl) ?_
        refine zz_aload C dX8_burns_49 (lv_at hl 0 rfl) ?_
        refine zz_get C (zz_lt (zz_e18 (zz_s1_1 (zz_s8_0 h0)) b_14) (by decide)) (zz_c0 (zz_e18 (zz_s1_1 (zz_s8_0 h0)) b_14)) rfl in_X8_burns_X0 0 (by decide) (List.mem_of_getElem? (i := 4) rfl) rfl dX8_burns_51 ?_
        refine zz_aload_n C dX8_burns_54 rfl (lv_at hl 1 rfl) ?_
        refine zz_get C (zz_lt h0 (by decide)) (zz_c8 h0) rfl in_X8_burns_X8 0 (by decide) (List.mem_of_getElem? (i := 1) rfl) rfl dX8_burns_55 ?_
        refine zz_get C (zz_lt (zz_s8_0 h0) (by decide)) (zz_c1 (zz_s8_0 h0)) rfl in_X8_burns_X1 0 (by decide) (List.mem_of_getElem? (i := 5) rfl) rfl dX8_burns_58 ?_
        refine zz_get C (zz_lt (zz_s1_0 (zz_s8_0 h0)) (by decide)) (zz_c7 (zz_s1_0 (zz_s8_0 h0))) rfl in_X8_burns_X7 0 (by decide) (List.mem_of_getElem? (i := 6) rfl) rfl dX8_burns_61 ?_
        refine zz_iload_n C dX8_burns_64 rfl (lv_at hl 3 rfl) ?_
        refine zz_aald (t := 4) (g := fun i => ((1 + 1) + 1) + 1 + i) C (zz_lt (zz_s7_0 (zz_s1_0 (zz_s8_0 h0))) (by decide)) (zz_c21 (zz_s7_0 (zz_s1_0 (zz_s8_0 h0)))) rfl dX8_burns_65 (fun b_15 => ?_)
        refine zz_iload_n C dX8_burns_66 rfl (lv_at hl 4 rfl) ?_
        refine zz_callVi (As := [.ref (E.1 + ((1 + 7) + 1 + 2 * zz_n x1)), .int (zz_i M_12 ((1 + 7) + 1 + 2 * zz_n x1) 0), .ref (E.1 + (((1 + 1) + 1) + 1 + zz_n x2)), .int x3]) (rest := []) C (m_X8_minutesBehind l E a0 ((1 + 7) + 1 + 2 * zz_n x1) (zz_i M_12 ((1 + 7) + 1 + 2 * zz_n x1) 0) (((1 + 1) + 1) + 1 + zz_n x2) x3 h0 (zz_e18 (zz_s1_1 (zz_s8_0 h0)) b_14) (zz_e21 (zz_s7_0 (zz_s1_0 (zz_s8_0 h0))) b_15) M_12) (cwV 4 C.1.2.2.2.2 gX8_burns_X8_minutesBehind rfl rfl rfl hdV_X8_minutesBehind ⟨Nat.le_of_ble_eq_true rfl, Nat.le_of_ble_eq_true rfl⟩) (zz_lt h0 (by decide)) (zz_c8 h0) rfl rfl hl.1 rfl (Nat.le_of_ble_eq_true rfl) dX8_burns_67 (fun r_16 M_17 => ?_)
        exact zz_iret C hr dX8_burns_70
-- X8_fewest ('X8', 'fewest', '(II)I')
theorem in_X8_fewest_X1 : ∀ w ∈ u_ws RX1 TX1 3, w ∈ wsX8_fewest := fun _ h => List.mem_cons_of_mem _ (List.mem_append_left _ (List.mem_append_left _ (List.mem_append_left _ (List.mem_append_left _ (List.mem_append_right _ h)))))
theorem in_X8_fewest_X8 : ∀ w ∈ u_ws RX8 TX8 11, w ∈ wsX8_fewest := fun _ h => List.mem_cons_of_mem _ (List.mem_append_left _ (List.mem_append_left _ (List.mem_append_left _ (List.mem_append_left _ (List.mem_append_left _ (List.mem_append_right _ h))))))
theorem hdV_X8_fewestDips : yX8_fewestDips.cls = RX8 ∧ yX8_fewestDips.cls ≠ "java/lang/invoke/MethodHandle" ∧ yX8_fewestDips.cls ≠ "java/lang/invoke/VarHandle" ∧ (parseMethodDescriptor yX8_fewestDips.desc).map (fun d => d.parameters.length) = some 2 := by decide +kernel
def f_X8_fewest (a0 : Nat) (x1 : Int32) (x2 : Int32) (M : zz_M) : Option (Int32 × zz_M) := zz_bd (f_X1_has 1 x1 M) (fun r_1 M_2 => (if r_1 = 0 then zz_bd (f_X8_finding a0 (-1000000001 : Int32) M_2) (fun r_4 M_5 => some (r_4, M_5)) else zz_bd (f_X8_within x2 (0 : Int32) (9999 : Int32) M_2) (fun r_6 M_7 => (if r_6 = 0 then zz_bd (f_X8_finding a0 (-1000000001 : Int32) M_7) (fun r_15 M_16 => some (r_15, M_16)) else (if zz_in x1 10 = true then zz_bd (f_X8_fewestDips a0 ((1 + 7) + 1 + 2 * zz_n x1) x2 M_7) (fun r_10 M_11 => (if 0 ≤ r_10 then some (r_10, M_11) else zz_bd (f_X8_finding a0 (-1000000004 : Int32) M_11) (fun r_13 M_14 => some (r_13, M_14)))) else none)))))
set_option maxRecDepth 100000 in
set_option maxHeartbeats 4000000 in
theorem m_X8_fewest (l : Launch) (E : zz_E) (a0 : Nat) (x1 : Int32) (x2 : Int32) (h0 : zz_sh a0 = 8) (M : zz_M) : zz_Met (zz_pi E) l yX8_fewest wsX8_fewest 16 E [.ref (E.1 + a0), .int x1, .int x2] M (f_X8_fewest a0 x1 x2 M) := by
  refine zz_met (cc := cX8_fewest) (nL := 4) (ret := (some .int)) (by decide) rfl (Nat.le_of_ble_eq_true rfl) ?_
  intro p e s m below meth c C hr ls hl
  have C : zz_C E RX8 cX8_fewest 4 wsX8_fewest p s m [.ref (E.1 + a0), .int x1, .int x2].toArray meth c := C
  have hl : lv_has ls 4 [(0, .ref (E.1 + a0)), (1, .int x1), (2, .int x2)] := hl
  unfold f_X8_fewest
  refine zz_aload_n C dX8_fewest_0 rfl (lv_at hl 0 rfl) ?_
  refine zz_get C (zz_lt h0 (by decide)) (zz_c8 h0) rfl in_X8_fewest_X8 0 (by decide) (List.mem_of_getElem? (i := 1) rfl) rfl dX8_fewest_1 ?_
  refine zz_iload_n C dX8_fewest_4 rfl (lv_at hl 1 rfl) ?_
  refine zz_callVi (As := [.int x1]) (rest := []) C (m_X1_has l E 1 x1 (zz_s8_0 h0) M) (cwV 1 C.1.2.2.2.2 gX8_fewest_X1_has rfl rfl rfl hdV_X1_has ⟨Nat.le_of_ble_eq_true rfl, Nat.le_of_ble_eq_true rfl⟩) (zz_lt (zz_s8_0 h0) (by decide)) (zz_c1 (zz_s8_0 h0)) rfl rfl hl.1 rfl (Nat.le_of_ble_eq_true rfl) dX8_fewest_5 (fun r_1 M_2 => ?_)
  refine zz_if_eq (tgt := 22) C dX8_fewest_8 (by decide) (fun c_3 => ?_) (fun c_3 => ?_)
  · refine zz_aload_n C dX8_fewest_22 rfl (lv_at hl 0 rfl) ?_
    refine zz_ldc (v := -1000000001) C (List.mem_of_getElem? (i := 2) rfl) dX8_fewest_23 ?_
    refine zz_callVi (As := [.int (-1000000001 : Int32)]) (rest := []) C (m_X8_finding l E a0 (-1000000001 : Int32) h0 M_2) (cwV 1 C.1.2.2.2.2 gX8_fewest_X8_finding rfl rfl rfl hdV_X8_finding ⟨Nat.le_of_ble_eq_true rfl, Nat.le_of_ble_eq_true rfl⟩) (zz_lt h0 (by decide)) (zz_c8 h0) rfl rfl hl.1 rfl (Nat.le_of_ble_eq_true rfl) dX8_fewest_25 (fun r_4 M_5 => ?_)
    exact zz_iret C hr dX8_fewest_28
  · refine zz_iload_n C dX8_fewest_11 rfl (lv_at hl 2 rfl) ?_
    refine zz_iconst (v := 0) C dX8_fewest_12 (by decide) ?_
    refine zz_sipush (v := 9999) C dX8_fewest_13 (by decide) ?_
    refine zz_callSi (As := [.int x2, .int (0 : Int32), .int (9999 : Int32)]) (rest := []) C (m_X8_within l E x2 (0 : Int32) (9999 : Int32)  M_2) (va_cwS 3 C.1.2.2.2.2 gX8_fewest_X8_within rfl rfl rfl hdS_X8_within ⟨Nat.le_of_ble_eq_true rfl, Nat.le_of_ble_eq_true rfl⟩) rfl hl.1 rfl (Nat.le_of_ble_eq_true rfl) dX8_fewest_16 (fun r_6 M_7 => ?_)
    refine zz_if_ne (tgt := 29) C dX8_fewest_19 (by decide) (fun c_8 => ?_) (fun c_8 => ?_)
    · refine zz_aload_n C dX8_fewest_22 rfl (lv_at hl 0 rfl) ?_
      refine zz_ldc (v := -1000000001) C (List.mem_of_getElem? (i := 2) rfl) dX8_fewest_23 ?_
      refine zz_callVi (As := [.int (-1000000001 : Int32)]) (rest := []) C (m_X8_finding l E a0 (-1000000001 : Int32) h0 M_7) (cwV 1 C.1.2.2.2.2 gX8_fewest_X8_finding rfl rfl rfl hdV_X8_finding ⟨Nat.le_of_ble_eq_true rfl, Nat.le_of_ble_eq_true rfl⟩) (zz_lt h0 (by decide)) (zz_c8 h0) rfl rfl hl.1 rfl (Nat.le_of_ble_eq_true rfl) dX8_fewest_25 (fun r_15 M_16 => ?_)
      exact zz_iret C hr dX8_fewest_28
    · refine zz_aload_n C dX8_fewest_29 rfl (lv_at hl 0 rfl) ?_
      refine zz_aload_n C dX8_fewest_30 rfl (lv_at hl 0 rfl) ?_
      refine zz_get C (zz_lt h0 (by decide)) (zz_c8 h0) rfl in_X8_fewest_X8 0 (by decide) (List.mem_of_getElem? (i := 1) rfl) rfl dX8_fewest_31 ?_
      refine zz_get C (zz_lt (zz_s8_0 h0) (by decide)) (zz_c1 (zz_s8_0 h0)) rfl in_X8_fewest_X1 1 (by decide) (List.mem_of_getElem? (i := 3) rfl) rfl dX8_fewest_34 ?_
      refine zz_iload_n C dX8_fewest_37 rfl (lv_at hl 1 rfl) ?_
      refine zz_aald (t := 2) (g := fun i => (1 + 7) + 1 + 2 * i) C (zz_lt (zz_s1_1 (zz_s8_0 h0)) (by decide)) (zz_c18 (zz_s1_1 (zz_s8_0 h0))) rfl dX8_fewest_38 (fun b_9 => ?_)
      refine zz_iload_n C dX8_fewest_39 rfl (lv_at hl 2 rfl) ?_
      refine zz_callVi (As := [.ref (E.1 + ((1 + 7) + 1 + 2 * zz_n x1)), .int x2]) (rest := []) C (m_X8_fewestDips l E a0 ((1 + 7) + 1 + 2 * zz_n x1) x2 h0 (zz_e18 (zz_s1_1 (zz_s8_0 h0)) b_9) M_7) (cwV 2 C.1.2.2.2.2 gX8_fewest_X8_fewestDips rfl rfl rfl hdV_X8_fewestDips ⟨Nat.le_of_ble_eq_true rfl, Nat.le_of_ble_eq_true rfl⟩) (zz_lt h0 (by decide)) (zz_c8 h0) rfl rfl hl.1 rfl (Nat.le_of_ble_eq_true rfl) dX8_fewest_40 (fun r_10 M_11 => ?_)
      refine zz_istored_n (lv' := [(3, .int r_10), (0, .ref (E.1 + a0)), (1, .int x1), (2, .int x2)]) C dX8_fewest_43 rfl hl (by decide) rfl (fun ls hl => ?_)
      refine zz_iload_n C dX8_fewest_44 rfl (lv_at hl 0 rfl) ?_
      refine zz_if_ge (tgt := 55) C dX8_fewest_45 (by decide) (fun c_12 => ?_) (fun c_12 => ?_)
      · refine zz_iload_n C dX8_fewest_55 rfl (lv_at hl 0 rfl) ?_
        exact zz_iret C hr dX8_fewest_56
      · refine zz_aload_n C dX8_fewest_48 rfl (lv_at hl 1 rfl) ?_
        refine zz_ldc (v := -1000000004) C (List.mem_of_getElem? (i := 4) rfl) dX8_fewest_49 ?_
        refine zz_callVi (As := [.int (-1000000004 : Int32)]) (rest := []) C (m_X8_finding l E a0 (-1000000004 : Int32) h0 M_11) (cwV 1 C.1.2.2.2.2 gX8_fewest_X8_finding rfl rfl rfl hdV_X8_finding ⟨Nat.le_of_ble_eq_true rfl, Nat.le_of_ble_eq_true rfl⟩) (zz_lt h0 (by decide)) (zz_c8 h0) rfl rfl hl.1 rfl (Nat.le_of_ble_eq_true rfl) dX8_fewest_51 (fun r_13 M_14 => ?_)
        exact zz_iret C hr dX8_fewest_54
-- X8_ith ('X8', 'ith', '(III)I')
theorem in_X8_ith_X1 : ∀ w ∈ u_ws RX1 TX1 3, w ∈ wsX8_ith := fun _ h => List.mem_cons_of_mem _ (List.mem_append_left _ (List.mem_append_left _ (List.mem_append_left _ (List.mem_append_left _ (List.mem_append_right _ h)))))
theorem in_X8_ith_X2 : ∀ w ∈ u_ws RX2 TX2 7, w ∈ wsX8_ith := fun _ h => List.mem_cons_of_mem _ (List.mem_append_left _ (List.mem_append_left _ (List.mem_append_left _ (List.mem_append_right _ h))))
theorem in_X8_ith_X8 : ∀ w ∈ u_ws RX8 TX8 11, w ∈ wsX8_ith := fun _ h => List.mem_cons_of_mem _ (List.mem_append_left _ (List.mem_append_left _ (List.mem_append_left _ (List.mem_append_left _ (List.mem_append_left _ (List.mem_append_right _ h))))))
def f_X8_ith (a0 : Nat) (x1 : Int32) (x2 : Int32) (x3 : Int32) (M : zz_M) : Option (Int32 × zz_M) := zz_bd (f_X1_has 1 x1 M) (fun r_1 M_2 => (if r_1 = 0 then zz_bd (f_X8_finding a0 (-1000000001 : Int32) M_2) (fun r_4 M_5 => some (r_4, M_5)) else zz_bd (f_X8_within x2 (0 : Int32) (9999 : Int32) M_2) (fun r_6 M_7 => (if r_6 = 0 then zz_bd (f_X8_finding a0 (-1000000001 : Int32) M_7) (fun r_9 M_10 => some (r_9, M_10)) else zz_bd (f_X8_within x3 (0 : Int32) (5 : Int32) M_7) (fun r_11 M_12 => (if r_11 = 0 then zz_bd (f_X8_finding a0 (-1000000001 : Int32) M_12) (fun r_20 M_21 => some (r_20, M_21)) else (if zz_in x1 10 = true then zz_bd (f_X8_fewestDips a0 ((1 + 7) + 1 + 2 * zz_n x1) x2 M_12) (fun r_15 M_16 => (if x3 < r_15 then some ((((zz_i M_16 66 6) >>> (((2 : Int32) * ((r_15 - (1 : Int32)) - x3)) &&& (31 : Int32))) &&& (3 : Int32)), M_16) else zz_bd (f_X8_finding a0 (-1000000004 : Int32) M_16) (fun r_18 M_19 => some (r_18, M_19)))) else none)))))))
set_option maxRecDepth 100000 in
set_option maxHeartbeats 4000000 in
theorem m_X8_ith (l : Launch) (E : zz_E) (a0 : Nat) (x1 : Int32) (x2 : Int32) (x3 : Int32) (h0 : zz_sh a0 = 8) (M : zz_M) : zz_Met (zz_pi E) l yX8_ith wsX8_ith 16 E [.ref (E.1 + a0), .int x1, .int x2, .int x3] M (f_X8_ith a0 x1 x2 x3 M) := by
  refine zz_met (cc := cX8_ith) (nL := 5) (ret := (some .int)) (by decide) rfl (Nat.le_of_ble_eq_true rfl) ?_
  intro p e s m below meth c C hr ls hl
  have C : zz_C E RX8 cX8_ith 5 wsX8_ith p s m [.ref (E.1 + a0), .int x1, .int x2, .int x3].toArray meth c := C
  have hl : lv_has ls 5 [(0, .ref (E.1 + a0)), (1, .int x1), (2, .int x2), (3, .int x3)] := hl
  unfold f_X8_ith
  refine zz_aload_n C dX8_ith_0 rfl (lv_at hl 0 rfl) ?_
  refine zz_get C (zz_lt h0 (by decide)) (zz_c8 h0) rfl in_X8_ith_X8 0 (by decide) (List.mem_of_getElem? (i := 1) rfl) rfl dX8_ith_1 ?_
  refine zz_iload_n C dX8_ith_4 rfl (lv_at hl 1 rfl) ?_
  refine zz_callVi (As := [.int x1]) (rest := []) C (m_X1_has l E 1 x1 (zz_s8_0 h0) M) (cwV 1 C.1.2.2.2.2 gX8_ith_X1_has rfl rfl rfl hdV_X1_has ⟨Nat.le_of_ble_eq_true rfl, Nat.le_of_ble_eq_true rfl⟩) (zz_lt (zz_s8_0 h0) (by decide)) (zz_c1 (zz_s8_0 h0)) rfl rfl hl.1 rfl (Nat.le_of_ble_eq_true rfl) dX8_ith_5 (fun r_1 M_2 => ?_)
  refine zz_if_eq (tgt := 31) C dX8_ith_8 (by decide) (fun c_3 => ?_) (fun c_3 => ?_)
  · refine zz_aload_n C dX8_ith_31 rfl (lv_at hl 0 rfl) ?_
    refine zz_ldc (v := -1000000001) C (List.mem_of_getElem? (i := 2) rfl) dX8_ith_32 ?_
    refine zz_callVi (As := [.int (-1000000001 : Int32)]) (rest := []) C (m_X8_finding l E a0 (-1000000001 : Int32) h0 M_2) (cwV 1 C.1.2.2.2.2 gX8_ith_X8_finding rfl rfl rfl hdV_X8_finding ⟨Nat.le_of_ble_eq_true rfl, Nat.le_of_ble_eq_true rfl⟩) (zz_lt h0 (by decide)) (zz_c8 h0) rfl rfl hl.1 rfl (Nat.le_of_ble_eq_true rfl) dX8_ith_34 (fun r_4 M_5 => ?_)
    exact zz_iret C hr dX8_ith_37
  · refine zz_iload_n C dX8_ith_11 rfl (lv_at hl 2 rfl) ?_
    refine zz_iconst (v := 0) C dX8_ith_12 (by decide) ?_
    refine zz_sipush (v := 9999) C dX8_ith_13 (by decide) ?_
    refine zz_callSi (As := [.int x2, .int (0 : Int32), .int (9999 : Int32)]) (rest := []) C (m_X8_within l E x2 (0 : Int32) (9999 : Int32)  M_2) (va_cwS 3 C.1.2.2.2.2 gX8_ith_X8_within rfl rfl rfl hdS_X8_within ⟨Nat.le_of_ble_eq_true rfl, Nat.le_of_ble_eq_true rfl⟩) rfl hl.1 rfl (Nat.le_of_ble_eq_true rfl) dX8_ith_16 (fun r_6 M_7 => ?_)
    refine zz_if_eq (tgt := 31) C dX8_ith_19 (by decide) (fun c_8 => ?_) (fun c_8 => ?_)
    · refine zz_aload_n C dX8_ith_31 rfl (lv_at hl 0 rfl) ?_
      refine zz_ldc (v := -1000000001) C (List.mem_of_getElem? (i := 2) rfl) dX8_ith_32 ?_
      refine zz_callVi (As := [.int (-1000000001 : Int32)]) (rest := []) C (m_X8_finding l E a0 (-1000000001 : Int32) h0 M_7) (cwV 1 C.1.2.2.2.2 gX8_ith_X8_finding rfl rfl rfl hdV_X8_finding ⟨Nat.le_of_ble_eq_true rfl, Nat.le_of_ble_eq_true rfl⟩) (zz_lt h0 (by decide)) (zz_c8 h0) rfl rfl hl.1 rfl (Nat.le_of_ble_eq_true rfl) dX8_ith_34 (fun r_9 M_10 => ?_)
      exact zz_iret C hr dX8_ith_37
    · refine zz_iload_n C dX8_ith_22 rfl (lv_at hl 3 rfl) ?_
      refine zz_iconst (v := 0) C dX8_ith_23 (by decide) ?_
      refine zz_iconst (v := 5) C dX8_ith_24 (by decide) ?_
      refine zz_callSi (As := [.int x3, .int (0 : Int32), .int (5 : Int32)]) (rest := []) C (m_X8_within l E x3 (0 : Int32) (5 : Int32)  M_7) (va_cwS 3 C.1.2.2.2.2 gX8_ith_X8_within rfl rfl rfl hdS_X8_within ⟨Nat.le_of_ble_eq_true rfl, Nat.le_of_ble_eq_true rfl⟩) rfl hl.1 rfl (Nat.le_of_ble_eq_true rfl) dX8_ith_25 (fun r_11 M_12 => ?_)
      refine zz_if_ne (tgt := 38) C dX8_ith_28 (by decide) (fun c_13 => ?_) (fun c_13 => ?_)
      · refine zz_aload_n C dX8_ith_31 rfl (lv_at hl 0 rfl) ?_
        refine zz_ldc (v := -1000000001) C (List.mem_of_getElem? (i := 2) rfl) dX8_ith_32 ?_
        refine zz_callVi (As := [.int (-1000000001 : Int32)]) (rest := []) C (m_X8_finding l E a0 (-1000000001 : Int32) h0 M_12) (cwV 1 C.1.2.2.2.2 gX8_ith_X8_finding rfl rfl rfl hdV_X8_finding ⟨Nat.le_of_ble_eq_true rfl, Nat.le_of_ble_eq_true rfl⟩) (zz_lt h0 (by decide)) (zz_c8 h0) rfl rfl hl.1 rfl (Nat.le_of_ble_eq_true rfl) dX8_ith_34 (fun r_20 M_21 => ?_)
        exact zz_iret C hr dX8_ith_37
      · refine zz_aload_n C dX8_ith_38 rfl (lv_at hl 0 rfl) ?_
        refine zz_aload_n C dX8_ith_39 rfl (lv_at hl 0 rfl) ?_
        refine zz_get C (zz_lt h0 (by decide)) (zz_c8 h0) rfl in_X8_ith_X8 0 (by decide) (List.mem_of_getElem? (i := 1) rfl) rfl dX8_ith_40 ?_
        refine zz_get C (zz_lt (zz_s8_0 h0) (by decide)) (zz_c1 (zz_s8_0 h0)) rfl in_X8_ith_X1 1 (by decide) (List.mem_of_getElem? (i := 3) rfl) rfl dX8_ith_43 ?_
        refine zz_iload_n C dX8_ith_46 rfl (lv_at hl 1 rfl) ?_
        refine zz_aald (t := 2) (g := fun i => (1 + 7) + 1 + 2 * i) C (zz_lt (zz_s1_1 (zz_s8_0 h0)) (by decide)) (zz_c18 (zz_s1_1 (zz_s8_0 h0))) rfl dX8_ith_47 (fun b_14 => ?_)
        refine zz_iload_n C dX8_ith_48 rfl (lv_at hl 2 rfl) ?_
        refine zz_callVi (As := [.ref (E.1 + ((1 + 7) + 1 + 2 * zz_n x1)), .int x2]) (rest := []) C (m_X8_fewestDips l E a0 ((1 + 7) + 1 + 2 * zz_n x1) x2 h0 (zz_e18 (zz_s1_1 (zz_s8_0 h0)) b_14) M_12) (cwV 2 C.1.2.2.2.2 gX8_ith_X8_fewestDips rfl rfl rfl hdV_X8_fewestDips ⟨Nat.le_of_ble_eq_true rfl, Nat.le_of_ble_eq_true rfl⟩) (zz_lt h0 (by decide)) (zz_c8 h0) rfl rfl hl.1 rfl (Nat.le_of_ble_eq_true rfl) dX8_ith_49 (fun r_15 M_16 => ?_)
        refine zz_istored (lv' := [(4, .int r_15), (0, .ref (E.1 + a0)), (1, .int x1), (2, .int x2), (3, .int x3)]) C dX8_ith_52 hl (by decide) rfl (fun ls hl => ?_)
        refine zz_iload_n C dX8_ith_54 rfl (lv_at hl 4 rfl) ?_
        refine zz_iload C dX8_ith_55 (lv_at hl 0 rfl) ?_
        refine zz_icmp_lt (tgt := 67) C dX8_ith_57 (by decide) (fun c_17 => ?_) (fun c_17 => ?_)
        · refine zz_aload_n C dX8_ith_67 rfl (lv_at hl 1 rfl) ?_
          refine zz_get C (zz_lt h0 (by decide)) (zz_c8 h0) rfl in_X8_ith_X8 6 (by decide) (List.mem_of_getElem? (i := 5) rfl) rfl dX8_ith_68 ?_
          refine zz_get C (zz_lt (zz_s8_6 h0) (by decide)) (zz_c2 (zz_s8_6 h0)) rfl in_X8_ith_X2 6 (by decide) (List.mem_of_getElem? (i := 6) rfl) rfl dX8_ith_71 ?_
          refine zz_iconst (v := 2) C dX8_ith_74 (by decide) ?_
          refine zz_iload C dX8_ith_75 (lv_at hl 0 rfl) ?_
          refine zz_iconst (v := 1) C dX8_ith_77 (by decide) ?_
          refine zz_isub C dX8_ith_78 ?_
          refine zz_iload_n C dX8_ith_79 rfl (lv_at hl 4 rfl) ?_
          refine zz_isub C dX8_ith_80 ?_
          refine zz_imul C dX8_ith_81 ?_
          refine zz_ishr C dX8_ith_82 ?_
          refine zz_iconst (v := 3) C dX8_ith_83 (by decide) ?_
          refine zz_iand C dX8_ith_84 ?_
          exact zz_iret C hr dX8_ith_85
        · refine zz_aload_n C dX8_ith_60 rfl (lv_at hl 1 rfl) ?_
          refine zz_ldc (v := -1000000004) C (List.mem_of_getElem? (i := 4) rfl) dX8_ith_61 ?_
          refine zz_callVi (As := [.int (-1000000004 : Int32)]) (rest := []) C (m_X8_finding l E a0 (-1000000004 : Int32) h0 M_16) (cwV 1 C.1.2.2.2.2 gX8_ith_X8_finding rfl rfl rfl hdV_X8_finding ⟨Nat.le_of_ble_eq_true rfl, Nat.le_of_ble_eq_true rfl⟩) (zz_lt h0 (by decide)) (zz_c8 h0) rfl rfl hl.1 rfl (Nat.le_of_ble_eq_true rfl) dX8_ith_63 (fun r_18 M_19 => ?_)
          exact zz_iret C hr dX8_ith_66
-- X8_ways ('X8', 'ways', '(III)I')
theorem in_X8_ways_X1 : ∀ w ∈ u_ws RX1 TX1 3, w ∈ wsX8_ways := fun _ h => List.mem_cons_of_mem _ (List.mem_append_left _ (List.mem_append_left _ (List.mem_append_left _ (List.mem_append_left _ (List.mem_append_right _ h)))))
theorem in_X8_ways_X2 : ∀ w ∈ u_ws RX2 TX2 7, w ∈ wsX8_ways := fun _ h => List.mem_cons_of_mem _ (List.mem_append_left _ (List.mem_append_left _ (List.mem_append_left _ (List.mem_append_right _ h))))
theorem in_X8_ways_X8 : ∀ w ∈ u_ws RX8 TX8 11, w ∈ wsX8_ways := fun _ h => List.mem_cons_of_mem _ (List.mem_append_left _ (List.mem_append_left _ (List.mem_append_left _ (List.mem_append_left _ (List.mem_append_left _ (List.mem_append_right _ h))))))
def f_X8_ways (a0 : Nat) (x1 : Int32) (x2 : Int32) (x3 : Int32) (M : zz_M) : Option (Int32 × zz_M) := zz_bd (f_X1_has 1 x1 M) (fun r_1 M_2 => (if r_1 = 0 then zz_bd (f_X8_finding a0 (-1000000001 : Int32) M_2) (fun r_4 M_5 => some (r_4, M_5)) else zz_bd (f_X8_within x2 (0 : Int32) (9999 : Int32) M_2) (fun r_6 M_7 => (if r_6 = 0 then zz_bd (f_X8_finding a0 (-1000000001 : Int32) M_7) (fun r_9 M_10 => some (r_9, M_10)) else zz_bd (f_X8_within x3 (0 : Int32) (6 : Int32) M_7) (fun r_11 M_12 => (if r_11 = 0 then zz_bd (f_X8_finding a0 (-1000000001 : Int32) M_12) (fun r_16 M_17 => some (r_16, M_17)) else (if zz_in x1 10 = true then zz_bd (f_X2_walk 66 (1 + 1) ((1 + 7) + 1 + 2 * zz_n x1) x3 x2 M_12) (fun _ M_15 => some ((zz_i M_15 66 4), M_15)) else none)))))))
set_option maxRecDepth 100000 in
set_option maxHeartbeats 4000000 in
theorem m_X8_ways (l : Launch) (E : zz_E) (a0 : Nat) (x1 : Int32) (x2 : Int32) (x3 : Int32) (h0 : zz_sh a0 = 8) (M : zz_M) : zz_Met (zz_pi E) l yX8_ways wsX8_ways 15 E [.ref (E.1 + a0), .int x1, .int x2, .int x3] M (f_X8_ways a0 x1 x2 x3 M) := by
  refine zz_met (cc := cX8_ways) (nL := 4) (ret := (some .int)) (by decide) rfl (Nat.le_of_ble_eq_true rfl) ?_
  intro p e s m below meth c C hr ls hl
  have C : zz_C E RX8 cX8_ways 4 wsX8_ways p s m [.ref (E.1 + a0), .int x1, .int x2, .int x3].toArray meth c := C
  have hl : lv_has ls 4 [(0, .ref (E.1 + a0)), (1, .int x1), (2, .int x2), (3, .int x3)] := hl
  unfold f_X8_ways
  refine zz_aload_n C dX8_ways_0 rfl (lv_at hl 0 rfl) ?_
  refine zz_get C (zz_lt h0 (by decide)) (zz_c8 h0) rfl in_X8_ways_X8 0 (by decide) (List.mem_of_getElem? (i := 1) rfl) rfl dX8_ways_1 ?_
  refine zz_iload_n C dX8_ways_4 rfl (lv_at hl 1 rfl) ?_
  refine zz_callVi (As := [.int x1]) (rest := []) C (m_X1_has l E 1 x1 (zz_s8_0 h0) M) (cwV 1 C.1.2.2.2.2 gX8_ways_X1_has rfl rfl rfl hdV_X1_has ⟨Nat.le_of_ble_eq_true rfl, Nat.le_of_ble_eq_true rfl⟩) (zz_lt (zz_s8_0 h0) (by decide)) (zz_c1 (zz_s8_0 h0)) rfl rfl hl.1 rfl (Nat.le_of_ble_eq_true rfl) dX8_ways_5 (fun r_1 M_2 => ?_)
  refine zz_if_eq (tgt := 32) C dX8_ways_8 (by decide) (fun c_3 => ?_) (fun c_3 => ?_)
  · refine zz_aload_n C dX8_ways_32 rfl (lv_at hl 0 rfl) ?_
    refine zz_ldc (v := -1000000001) C (List.mem_of_getElem? (i := 2) rfl) dX8_ways_33 ?_
    refine zz_callVi (As := [.int (-1000000001 : Int32)]) (rest := []) C (m_X8_finding l E a0 (-1000000001 : Int32) h0 M_2) (cwV 1 C.1.2.2.2.2 gX8_ways_X8_finding rfl rfl rfl hdV_X8_finding ⟨Nat.le_of_ble_eq_true rfl, Nat.le_of_ble_eq_true rfl⟩) (zz_lt h0 (by decide)) (zz_c8 h0) rfl rfl hl.1 rfl (Nat.le_of_ble_eq_true rfl) dX8_ways_35 (fun r_4 M_5 => ?_)
    exact zz_iret C hr dX8_ways_38
  · refine zz_iload_n C dX8_ways_11 rfl (lv_at hl 2 rfl) ?_
    refine zz_iconst (v := 0) C dX8_ways_12 (by decide) ?_
    refine zz_sipush (v := 9999) C dX8_ways_13 (by decide) ?_
    refine zz_callSi (As := [.int x2, .int (0 : Int32), .int (9999 : Int32)]) (rest := []) C (m_X8_within l E x2 (0 : Int32) (9999 : Int32)  M_2) (va_cwS 3 C.1.2.2.2.2 gX8_ways_X8_within rfl rfl rfl hdS_X8_within ⟨Nat.le_of_ble_eq_true rfl, Nat.le_of_ble_eq_true rfl⟩) rfl hl.1 rfl (Nat.le_of_ble_eq_true rfl) dX8_ways_16 (fun r_6 M_7 => ?_)
    refine zz_if_eq (tgt := 32) C dX8_ways_19 (by decide) (fun c_8 => ?_) (fun c_8 => ?_)
    · refine zz_aload_n C dX8_ways_32 rfl (lv_at hl 0 rfl) ?_
      refine zz_ldc (v := -1000000001) C (List.mem_of_getElem? (i := 2) rfl) dX8_ways_33 ?_
      refine zz_callVi (As := [.int (-1000000001 : Int32)]) (rest := []) C (m_X8_finding l E a0 (-1000000001 : Int32) h0 M_7) (cwV 1 C.1.2.2.2.2 gX8_ways_X8_finding rfl rfl rfl hdV_X8_finding ⟨Nat.le_of_ble_eq_true rfl, Nat.le_of_ble_eq_true rfl⟩) (zz_lt h0 (by decide)) (zz_c8 h0) rfl rfl hl.1 rfl (Nat.le_of_ble_eq_true rfl) dX8_ways_35 (fun r_9 M_10 => ?_)
      exact zz_iret C hr dX8_ways_38
    · refine zz_iload_n C dX8_ways_22 rfl (lv_at hl 3 rfl) ?_
      refine zz_iconst (v := 0) C dX8_ways_23 (by decide) ?_
      refine zz_bipush (v := 6) C dX8_ways_24 (by decide) ?_
      refine zz_callSi (As := [.int x3, .int (0 : Int32), .int (6 : Int32)]) (rest := []) C (m_X8_within l E x3 (0 : Int32) (6 : Int32)  M_7) (va_cwS 3 C.1.2.2.2.2 gX8_ways_X8_within rfl rfl rfl hdS_X8_within ⟨Nat.le_of_ble_eq_true rfl, Nat.le_of_ble_eq_true rfl⟩) rfl hl.1 rfl (Nat.le_of_ble_eq_true rfl) dX8_ways_26 (fun r_11 M_12 => ?_)
      refine zz_if_ne (tgt := 39) C dX8_ways_29 (by decide) (fun c_13 => ?_) (fun c_13 => ?_)
      · refine zz_aload_n C dX8_ways_32 rfl (lv_at hl 0 rfl) ?_
        refine zz_ldc (v := -1000000001) C (List.mem_of_getElem? (i := 2) rfl) dX8_ways_33 ?_
        refine zz_callVi (As := [.int (-1000000001 : Int32)]) (rest := []) C (m_X8_finding l E a0 (-1000000001 : Int32) h0 M_12) (cwV 1 C.1.2.2.2.2 gX8_ways_X8_finding rfl rfl rfl hdV_X8_finding ⟨Nat.le_of_ble_eq_true rfl, Nat.le_of_ble_eq_true rfl⟩) (zz_lt h0 (by decide)) (zz_c8 h0) rfl rfl hl.1 rfl (Nat.le_of_ble_eq_true rfl) dX8_ways_35 (fun r_16 M_17 => ?_)
        exact zz_iret C hr dX8_ways_38
      · refine zz_aload_n C dX8_ways_39 rfl (lv_at hl 0 rfl) ?_
        refine zz_get C (zz_lt h0 (by decide)) (zz_c8 h0) rfl in_X8_ways_X8 6 (by decide) (List.mem_of_getElem? (i := 3) rfl) rfl dX8_ways_40 ?_
        refine zz_aload_n C dX8_ways_43 rfl (lv_at hl 0 rfl) ?_
        refine zz_get C (zz_lt h0 (by decide)) (zz_c8 h0) rfl in_X8_ways_X8 0 (by decide) (List.mem_of_getElem? (i := 1) rfl) rfl dX8_ways_44 ?_
        refine zz_get C (zz_lt (zz_s8_0 h0) (by decide)) (zz_c1 (zz_s8_0 h0)) rfl in_X8_ways_X1 0 (by decide) (List.mem_of_getElem? (i := 4) rfl) rfl dX8_ways_47 ?_
        refine zz_aload_n C dX8_ways_50 rfl (lv_at hl 0 rfl) ?_
        refine zz_get C (zz_lt h0 (by decide)) (zz_c8 h0) rfl in_X8_ways_X8 0 (by decide) (List.mem_of_getElem? (i := 1) rfl) rfl dX8_ways_51 ?_
        refine zz_get C (zz_lt (zz_s8_0 h0) (by decide)) (zz_c1 (zz_s8_0 h0)) rfl in_X8_ways_X1 1 (by decide) (List.mem_of_getElem? (i := 5) rfl) rfl dX8_ways_54 ?_
        refine zz_iload_n C dX8_ways_57 rfl (lv_at hl 1 rfl) ?_
        refine zz_aald (t := 2) (g := fun i => (1 + 7) + 1 + 2 * i) C (zz_lt (zz_s1_1 (zz_s8_0 h0)) (by decide)) (zz_c18 (zz_s1_1 (zz_s8_0 h0))) rfl dX8_ways_58 (fun b_14 => ?_)
        refine zz_iload_n C dX8_ways_59 rfl (lv_at hl 3 rfl) ?_
        refine zz_iload_n C dX8_ways_60 rfl (lv_at hl 2 rfl) ?_
        refine zz_callVv (As := [.ref (E.1 + (1 + 1)), .ref (E.1 + ((1 + 7) + 1 + 2 * zz_n x1)), .int x3, .int x2]) (rest := []) C (m_X2_walk l E 66 (1 + 1) ((1 + 7) + 1 + 2 * zz_n x1) x3 x2 (zz_s8_6 h0) (zz_s1_0 (zz_s8_0 h0)) (zz_e18 (zz_s1_1 (zz_s8_0 h0)) b_14) M_12) (cwV 4 C.1.2.2.2.2 gX8_ways_X2_walk rfl rfl rfl hdV_X2_walk ⟨Nat.le_of_ble_eq_true rfl, Nat.le_of_ble_eq_true rfl⟩) (zz_lt (zz_s8_6 h0) (by decide)) (zz_c2 (zz_s8_6 h0)) rfl rfl hl.1 rfl (Nat.le_of_ble_eq_true rfl) dX8_ways_61 (fun _ M_15 => ?_)
        refine zz_aload_n C dX8_ways_64 rfl (lv_at hl 0 rfl) ?_
        refine zz_get C (zz_lt h0 (by decide)) (zz_c8 h0) rfl in_X8_ways_X8 6 (by decide) (List.mem_of_getElem? (i := 3) rfl) rfl dX8_ways_65 ?_
        refine zz_get C (zz_lt (zz_s8_6 h0) (by decide)) (zz_c2 (zz_s8_6 h0)) rfl in_X8_ways_X2 4 (by decide) (List.mem_of_getElem? (i := 6) rfl) rfl dX8_ways_68 ?_
        exact zz_iret C hr dX8_ways_71
-- X8_most ('X8', 'most', '(II)I')
theorem in_X8_most_X1 : ∀ w ∈ u_ws RX1 TX1 3, w ∈ wsX8_most := fun _ h => List.mem_cons_of_mem _ (List.mem_append_left _ (List.mem_append_left _ (List.mem_append_left _ (List.mem_append_left _ (List.mem_append_right _ h)))))
theorem in_X8_most_X2 : ∀ w ∈ u_ws RX2 TX2 7, w ∈ wsX8_most := fun _ h => List.mem_cons_of_mem _ (List.mem_append_left _ (List.mem_append_left _ (List.mem_append_left _ (List.mem_append_right _ h))))
theorem in_X8_most_X8 : ∀ w ∈ u_ws RX8 TX8 11, w ∈ wsX8_most := fun _ h => List.mem_cons_of_mem _ (List.mem_append_left _ (List.mem_append_left _ (List.mem_append_left _ (List.mem_append_left _ (List.mem_append_left _ (List.mem_append_right _ h))))))
def f_X8_most (a0 : Nat) (x1 : Int32) (x2 : Int32) (M : zz_M) : Option (Int32 × zz_M) := zz_bd (f_X1_has 1 x1 M) (fun r_1 M_2 => (if r_1 = 0 then zz_bd (f_X8_finding a0 (-1000000001 : Int32) M_2) (fun r_4 M_5 => some (r_4, M_5)) else zz_bd (f_X8_within x2 (0 : Int32) (6 : Int32) M_2) (fun r_6 M_7 => (if r_6 = 0 then zz_bd (f_X8_finding a0 (-1000000001 : Int32) M_7) (fun r_11 M_12 => some (r_11, M_12)) else (if zz_in x1 10 = true then zz_bd (f_X2_walk 66 (1 + 1) ((1 + 7) + 1 + 2 * zz_n x1) x2 (0 : Int32) M_7) (fun _ M_10 => some ((zz_i M_10 66 5), M_10)) else none)))))
set_option maxRecDepth 100000 in
set_option maxHeartbeats 4000000 in
theorem m_X8_most (l : Launch) (E : zz_E) (a0 : Nat) (x1 : Int32) (x2 : Int32) (h0 : zz_sh a0 = 8) (M : zz_M) : zz_Met (zz_pi E) l yX8_most wsX8_most 15 E [.ref (E.1 + a0), .int x1, .int x2] M (f_X8_most a0 x1 x2 M) := by
  refine zz_met (cc := cX8_most) (nL := 3) (ret := (some .int)) (by decide) rfl (Nat.le_of_ble_eq_true rfl) ?_
  intro p e s m below meth c C hr ls hl
  have C : zz_C E RX8 cX8_most 3 wsX8_most p s m [.ref (E.1 + a0), .int x1, .int x2].toArray meth c := C
  have hl : lv_has ls 3 [(0, .ref (E.1 + a0)), (1, .int x1), (2, .int x2)] := hl
  unfold f_X8_most
  refine zz_aload_n C dX8_most_0 rfl (lv_at hl 0 rfl) ?_
  refine zz_get C (zz_lt h0 (by decide)) (zz_c8 h0) rfl in_X8_most_X8 0 (by decide) (List.mem_of_getElem? (i := 1) rfl) rfl dX8_most_1 ?_
  refine zz_iload_n C dX8_most_4 rfl (lv_at hl 1 rfl) ?_
  refine zz_callVi (As := [.int x1]) (rest := []) C (m_X1_has l E 1 x1 (zz_s8_0 h0) M) (cwV 1 C.1.2.2.2.2 gX8_most_X1_has rfl rfl rfl hdV_X1_has ⟨Nat.le_of_ble_eq_true rfl, Nat.le_of_ble_eq_true rfl⟩) (zz_lt (zz_s8_0 h0) (by decide)) (zz_c1 (zz_s8_0 h0)) rfl rfl hl.1 rfl (Nat.le_of_ble_eq_true rfl) dX8_most_5 (fun r_1 M_2 => ?_)
  refine zz_if_eq (tgt := 21) C dX8_most_8 (by decide) (fun c_3 => ?_) (fun c_3 => ?_)
  · refine zz_aload_n C dX8_most_21 rfl (lv_at hl 0 rfl) ?_
    refine zz_ldc (v := -1000000001) C (List.mem_of_getElem? (i := 2) rfl) dX8_most_22 ?_
    refine zz_callVi (As := [.int (-1000000001 : Int32)]) (rest := []) C (m_X8_finding l E a0 (-1000000001 : Int32) h0 M_2) (cwV 1 C.1.2.2.2.2 gX8_most_X8_finding rfl rfl rfl hdV_X8_finding ⟨Nat.le_of_ble_eq_true rfl, Nat.le_of_ble_eq_true rfl⟩) (zz_lt h0 (by decide)) (zz_c8 h0) rfl rfl hl.1 rfl (Nat.le_of_ble_eq_true rfl) dX8_most_24 (fun r_4 M_5 => ?_)
    exact zz_iret C hr dX8_most_27
  · refine zz_iload_n C dX8_most_11 rfl (lv_at hl 2 rfl) ?_
    refine zz_iconst (v := 0) C dX8_most_12 (by decide) ?_
    refine zz_bipush (v := 6) C dX8_most_13 (by decide) ?_
    refine zz_callSi (As := [.int x2, .int (0 : Int32), .int (6 : Int32)]) (rest := []) C (m_X8_within l E x2 (0 : Int32) (6 : Int32)  M_2) (va_cwS 3 C.1.2.2.2.2 gX8_most_X8_within rfl rfl rfl hdS_X8_within ⟨Nat.le_of_ble_eq_true rfl, Nat.le_of_ble_eq_true rfl⟩) rfl hl.1 rfl (Nat.le_of_ble_eq_true rfl) dX8_most_15 (fun r_6 M_7 => ?_)
    refine zz_if_ne (tgt := 28) C dX8_most_18 (by decide) (fun c_8 => ?_) (fun c_8 => ?_)
    · refine zz_aload_n C dX8_most_21 rfl (lv_at hl 0 rfl) ?_
      refine zz_ldc (v := -1000000001) C (List.mem_of_getElem? (i := 2) rfl) dX8_most_22 ?_
      refine zz_callVi (As := [.int (-1000000001 : Int32)]) (rest := []) C (m_X8_finding l E a0 (-1000000001 : Int32) h0 M_7) (cwV 1 C.1.2.2.2.2 gX8_most_X8_finding rfl rfl rfl hdV_X8_finding ⟨Nat.le_of_ble_eq_true rfl, Nat.le_of_ble_eq_true rfl⟩) (zz_lt h0 (by decide)) (zz_c8 h0) rfl rfl hl.1 rfl (Nat.le_of_ble_eq_true rfl) dX8_most_24 (fun r_11 M_12 => ?_)
      exact zz_iret C hr dX8_most_27
    · refine zz_aload_n C dX8_most_28 rfl (lv_at hl 0 rfl) ?_
      refine zz_get C (zz_lt h0 (by decide)) (zz_c8 h0) rfl in_X8_most_X8 6 (by decide) (List.mem_of_getElem? (i := 3) rfl) rfl dX8_most_29 ?_
      refine zz_aload_n C dX8_most_32 rfl (lv_at hl 0 rfl) ?_
      refine zz_get C (zz_lt h0 (by decide)) (zz_c8 h0) rfl in_X8_most_X8 0 (by decide) (List.mem_of_getElem? (i := 1) rfl) rfl dX8_most_33 ?_
      refine zz_get C (zz_lt (zz_s8_0 h0) (by decide)) (zz_c1 (zz_s8_0 h0)) rfl in_X8_most_X1 0 (by decide) (List.mem_of_getElem? (i := 4) rfl) rfl dX8_most_36 ?_
      refine zz_aload_n C dX8_most_39 rfl (lv_at hl 0 rfl) ?_
      refine zz_get C (zz_lt h0 (by decide)) (zz_c8 h0) rfl in_X8_most_X8 0 (by decide) (List.mem_of_getElem? (i := 1) rfl) rfl dX8_most_40 ?_
      refine zz_get C (zz_lt (zz_s8_0 h0) (by decide)) (zz_c1 (zz_s8_0 h0)) rfl in_X8_most_X1 1 (by decide) (List.mem_of_getElem? (i := 5) rfl) rfl dX8_most_43 ?_
      refine zz_iload_n C dX8_most_46 rfl (lv_at hl 1 rfl) ?_
      refine zz_aald (t := 2) (g := fun i => (1 + 7) + 1 + 2 * i) C (zz_lt (zz_s1_1 (zz_s8_0 h0)) (by decide)) (zz_c18 (zz_s1_1 (zz_s8_0 h0))) rfl dX8_most_47 (fun b_9 => ?_)
      refine zz_iload_n C dX8_most_48 rfl (lv_at hl 2 rfl) ?_
      refine zz_iconst (v := 0) C dX8_most_49 (by decide) ?_
      refine zz_callVv (As := [.ref (E.1 + (1 + 1)), .ref (E.1 + ((1 + 7) + 1 + 2 * zz_n x1)), .int x2, .int (0 : Int32)]) (rest := []) C (m_X2_walk l E 66 (1 + 1) ((1 + 7) + 1 + 2 * zz_n x1) x2 (0 : Int32) (zz_s8_6 h0) (zz_s1_0 (zz_s8_0 h0)) (zz_e18 (zz_s1_1 (zz_s8_0 h0)) b_9) M_7) (cwV 4 C.1.2.2.2.2 gX8_most_X2_walk rfl rfl rfl hdV_X2_walk ⟨Nat.le_of_ble_eq_true rfl, Nat.le_of_ble_eq_true rfl⟩) (zz_lt (zz_s8_6 h0) (by decide)) (zz_c2 (zz_s8_6 h0)) rfl rfl hl.1 rfl (Nat.le_of_ble_eq_true rfl) dX8_most_50 (fun _ M_10 => ?_)
      refine zz_aload_n C dX8_most_53 rfl (lv_at hl 0 rfl) ?_
      refine zz_get C (zz_lt h0 (by decide)) (zz_c8 h0) rfl in_X8_most_X8 6 (by decide) (List.mem_of_getElem? (i := 3) rfl) rfl dX8_most_54 ?_
      refine zz_get C (zz_lt (zz_s8_6 h0) (by decide)) (zz_c2 (zz_s8_6 h0)) rfl in_X8_most_X2 5 (by decide) (List.mem_of_getElem? (i := 6) rfl) rfl dX8_most_57 ?_
      exact zz_iret C hr dX8_most_60
-- X8_best ('X8', 'best', '(I)I')
theorem in_X8_best_X0 : ∀ w ∈ u_ws RX0 TX0 5, w ∈ wsX8_best := fun _ h => List.mem_cons_of_mem _ (List.mem_append_left _ (List.mem_append_left _ (List.mem_append_right _ h)))
theorem in_X8_best_X1 : ∀ w ∈ u_ws RX1 TX1 3, w ∈ wsX8_best := fun _ h => List.mem_cons_of_mem _ (List.mem_append_left _ (List.mem_append_left _ (List.mem_append_left _ (List.mem_append_right _ h))))
theorem in_X8_best_X7 : ∀ w ∈ u_ws RX7 TX7 4, w ∈ wsX8_best := fun _ h => List.mem_cons_of_mem _ (List.mem_append_left _ (List.mem_append_right _ h))
theorem in_X8_best_X8 : ∀ w ∈ u_ws RX8 TX8 11, w ∈ wsX8_best := fun _ h => List.mem_cons_of_mem _ (List.mem_append_left _ (List.mem_append_left _ (List.mem_append_left _ (List.mem_append_left _ (List.mem_append_right _ h)))))
def b_X8_best_95 (k50 : Nat → Nat → Int32 → Int32 → Int32 → zz_M → Option (Int32 × zz_M)) (a0 : Nat) (a2 : Nat) (x3 : Int32) (x4 : Int32) (x5 : Int32) (M : zz_M) : Option (Int32 × zz_M) := zz_w (x5 + (1 : Int32)) (fun x5_17 => k50 a0 a2 x3 x4 x5_17 M)
set_option maxRecDepth 100000 in
set_option maxHeartbeats 4000000 in
theorem wb_X8_best_95 {p : Program} {l : Launch} {e : Env} {s : State} {m : MethodId} {args : Array Value} {below : List Frame} {meth : Method} {c : Code} {E : zz_E} (C : zz_C E RX8 cX8_best 7 wsX8_best p s m args meth c) (hr : meth.sig.returnType = (some .int)) {k50 : Nat → Nat → Int32 → Int32 → Int32 → zz_M → Option (Int32 × zz_M)} (hk50 : ∀ (a0 : Nat) (a2 : Nat) (x3 : Int32) (x4 : Int32) (x5 : Int32) (ha0 : zz_sh a0 = 8) (ha2 : zz_sh a2 = 0) (M : zz_M) (ls : Array Slot), lv_has ls 7 [(0, .ref (E.1 + a0)), (2, .ref (E.1 + a2)), (3, .int x3), (4, .int x4), (5, .int x5)] → zz_Z E p l e (zz_rm 5) s m args below meth c (zz_Q (zz_pi E) E below args s) (k50 a0 a2 x3 x4 x5 M) M (F0 m 50 ls [])) : ∀ (a0 : Nat) (a2 : Nat) (x3 : Int32) (x4 : Int32) (x5 : Int32) (ha0 : zz_sh a0 = 8) (ha2 : zz_sh a2 = 0) (M : zz_M) (ls : Array Slot), lv_has ls 7 [(0, .ref (E.1 + a0)), (2, .ref (E.1 + a2)), (3, .int x3), (4, .int x4), (5, .int x5)] → zz_Z E p l e (zz_rm 5) s m args below meth c (zz_Q (zz_pi E) E below args s) (b_X8_best_95 k50 a0 a2 x3 x4 x5 M) M (F0 m 95 ls []) := by
  intro a0 a2 x3 x4 x5 ha0 ha2 M ls hl
  unfold b_X8_best_95
  refine zz_iinc (k9 := 4) (d := 1) C (fun x5_17 => [(5, .int x5_17), (0, .ref (E.1 + a0)), (2, .ref (E.1 + a2)), (3, .int x3), (4, .int x4)]) dX8_best_95 hl rfl (by decide) (by decide) (fun _ => rfl) (fun x5_17 ls hl => ?_)
  refine zz_goto (tgt := 50) C dX8_best_98 (by decide) ?_
  exact hk50 a0 a2 x3 x4 x5_17 ha0 ha2 M ls (lv_sub hl [1, 2, 3, 4, 0] rfl)
def b_X8_best_50 : Nat → Nat → Nat → Int32 → Int32 → Int32 → zz_M → Option (Int32 × zz_M)
  | 0 => fun _ _ _ _ _ _ => none
  | n + 1 => fun a0 a2 x3 x4 x5 M => (if (4 : Int32) ≤ x5 then some (x3, M) else (if zz_in x5 4 = true then zz_bd (f_X8_minutesBehind a0 a2 (zz_i M a2 0) (((1 + 1) + 1) + 1 + zz_n x5) (1 : Int32) M) (fun r_14 M_15 => (if r_14 ≤ x4 then b_X8_best_95 (b_X8_best_50 n) a0 a2 x3 x4 x5 M_15 else b_X8_best_95 (b_X8_best_50 n) a0 a2 x5 r_14 x5 M_15)) else none))
set_option maxRecDepth 100000 in
set_option maxHeartbeats 4000000 in
theorem wb_X8_best_50 {p : Program} {l : Launch} {e : Env} {s : State} {m : MethodId} {args : Array Value} {below : List Frame} {meth : Method} {c : Code} {E : zz_E} (C : zz_C E RX8 cX8_best 7 wsX8_best p s m args meth c) (hr : meth.sig.returnType = (some .int)) : ∀ (n : Nat) (a0 : Nat) (a2 : Nat) (x3 : Int32) (x4 : Int32) (x5 : Int32) (ha0 : zz_sh a0 = 8) (ha2 : zz_sh a2 = 0) (M : zz_M) (ls : Array Slot), lv_has ls 7 [(0, .ref (E.1 + a0)), (2, .ref (E.1 + a2)), (3, .int x3), (4, .int x4), (5, .int x5)] → zz_Z E p l e (zz_rm 5) s m args below meth c (zz_Q (zz_pi E) E below args s) (b_X8_best_50 n a0 a2 x3 x4 x5 M) M (F0 m 50 ls []) := by
  intro n
  induction n with
  | zero => intro a0 a2 x3 x4 x5 ha0 ha2 M ls hl; exact zz_none
  | succ n ih =>
    intro a0 a2 x3 x4 x5 ha0 ha2 M ls hl
    rw [b_X8_best_50]
    refine zz_iload C dX8_best_50 (lv_at hl 4 rfl) ?_
    refine zz_iconst (v := 4) C dX8_best_52 (by decide) ?_
    refine zz_icmp_ge (tgt := 101) C dX8_best_53 (by decide) (fun c_12 => ?_) (fun c_12 => ?_)
    · refine zz_iload_n C dX8_best_101 rfl (lv_at hl 2 rfl) ?_
      exact zz_iret C hr dX8_best_102
    · refine zz_aload_n C dX8_best_56 rfl (lv_at hl 0 rfl) ?_
      refine zz_aload_n C dX8_best_57 rfl (lv_at hl 1 rfl) ?_
      refine zz_aload_n C dX8_best_58 rfl (lv_at hl 1 rfl) ?_
      refine zz_get C (zz_lt ha2 (by decide)) (zz_c0 ha2) rfl in_X8_best_X0 0 (by decide) (List.mem_of_getElem? (i := 5) rfl) rfl dX8_best_59 ?_
      refine zz_aload_n C dX8_best_62 rfl (lv_at hl 0 rfl) ?_
      refine zz_get C (zz_lt ha0 (by decide)) (zz_c8 ha0) rfl in_X8_best_X8 0 (by decide) (List.mem_of_getElem? (i := 1) rfl) rfl dX8_best_63 ?_
      refine zz_get C (zz_lt (zz_s8_0 ha0) (by decide)) (zz_c1 (zz_s8_0 ha0)) rfl in_X8_best_X1 0 (by decide) (List.mem_of_getElem? (i := 6) rfl) rfl dX8_best_66 ?_
      refine zz_get C (zz_lt (zz_s1_0 (zz_s8_0 ha0)) (by decide)) (zz_c7 (zz_s1_0 (zz_s8_0 ha0))) rfl in_X8_best_X7 0 (by decide) (List.mem_of_getElem? (i := 7) rfl) rfl dX8_best_69 ?_
      refine zz_iload C dX8_best_72 (lv_at hl 4 rfl) ?_
      refine zz_aald (t := 4) (g := fun i => ((1 + 1) + 1) + 1 + i) C (zz_lt (zz_s7_0 (zz_s1_0 (zz_s8_0 ha0))) (by decide)) (zz_c21 (zz_s7_0 (zz_s1_0 (zz_s8_0 ha0)))) rfl dX8_best_74 (fun b_13 => ?_)
      refine zz_iconst (v := 1) C dX8_best_75 (by decide) ?_
      refine zz_callVi (As := [.ref (E.1 + a2), .int (zz_i M a2 0), .ref (E.1 + (((1 + 1) + 1) + 1 + zz_n x5)), .int (1 : Int32)]) (rest := []) C (m_X8_minutesBehind l E a0 a2 (zz_i M a2 0) (((1 + 1) + 1) + 1 + zz_n x5) (1 : Int32) ha0 ha2 (zz_e21 (zz_s7_0 (zz_s1_0 (zz_s8_0 ha0))) b_13) M) (cwV 4 C.1.2.2.2.2 gX8_best_X8_minutesBehind rfl rfl rfl hdV_X8_minutesBehind ⟨Nat.le_of_ble_eq_true rfl, Nat.le_of_ble_eq_true rfl⟩) (zz_lt ha0 (by decide)) (zz_c8 ha0) rfl rfl hl.1 rfl (Nat.le_of_ble_eq_true rfl) dX8_best_76 (fun r_14 M_15 => ?_)
      refine zz_istored (lv' := [(6, .int r_14), (0, .ref (E.1 + a0)), (2, .ref (E.1 + a2)), (3, .int x3), (4, .int x4), (5, .int x5)]) C dX8_best_79 hl (by decide) rfl (fun ls hl => ?_)
      refine zz_iload C dX8_best_81 (lv_at hl 0 rfl) ?_
      refine zz_iload C dX8_best_83 (lv_at hl 4 rfl) ?_
      refine zz_icmp_le (tgt := 95) C dX8_best_85 (by decide) (fun c_16 => ?_) (fun c_16 => ?_)
      · exact wb_X8_best_95 C hr ih a0 a2 x3 x4 x5 ha0 ha2 M_15 ls (lv_sub hl [1, 2, 3, 4, 5] rfl)
      · refine zz_iload C dX8_best_88 (lv_at hl 0 rfl) ?_
        refine zz_istored (lv' := [(4, .int r_14), (6, .int r_14), (0, .ref (E.1 + a0)), (2, .ref (E.1 + a2)), (3, .int x3), (5, .int x5)]) C dX8_best_90 hl (by decide) rfl (fun ls hl => ?_)
        refine zz_iload C dX8_best_92 (lv_at hl 5 rfl) ?_
        refine zz_istored_n (lv' := [(3, .int x5), (4, .int r_14), (6, .int r_14), (0, .ref (E.1 + a0)), (2, .ref (E.1 + a2)), (5, .int x5)]) C dX8_best_94 rfl hl (by decide) rfl (fun ls hl => ?_)
        exact wb_X8_best_95 C hr ih a0 a2 x5 r_14 x5 ha0 ha2 M_15 ls (lv_sub hl [3, 4, 0, 1, 5] rfl)
def f_X8_best (a0 : Nat) (x1 : Int32) (M : zz_M) : Option (Int32 × zz_M) := zz_bd (f_X1_has 1 x1 M) (fun r_1 M_2 => (if r_1 = 0 then zz_bd (f_X8_finding a0 (-1000000001 : Int32) M_2) (fun r_10 M_11 => some (r_10, M_11)) else (if zz_in x1 10 = true then zz_bd (f_X0_isThick ((1 + 7) + 1 + 2 * zz_n x1) M_2) (fun r_5 M_6 => (if r_5 = 0 then b_X8_best_50  zz_fuel a0 ((1 + 7) + 1 + 2 * zz_n x1) (0 : Int32) (-1 : Int32) (0 : Int32) M_6 else zz_bd (f_X8_finding a0 (-1000000005 : Int32) M_6) (fun r_8 M_9 => some (r_8, M_9)))) else none)))
set_option maxRecDepth 100000 in
set_option maxHeartbeats 4000000 in
theorem m_X8_best (l : Launch) (E : zz_E) (a0 : Nat) (x1 : Int32) (h0 : zz_sh a0 = 8) (M : zz_M) : zz_Met (zz_pi E) l yX8_best wsX8_best 5 E [.ref (E.1 + a0), .int x1] M (f_X8_best a0 x1 M) := by
  refine zz_met (cc := cX8_best) (nL := 7) (ret := (some .int)) (by decide) rfl (Nat.le_of_ble_eq_true rfl) ?_
  intro p e s m below meth c C hr ls hl
  have C : zz_C E RX8 cX8_best 7 wsX8_best p s m [.ref (E.1 + a0), .int x1].toArray meth c := C
  have hl : lv_has ls 7 [(0, .ref (E.1 + a0)), (1, .int x1)] := hl
  unfold f_X8_best
  refine zz_aload_n C dX8_best_0 rfl (lv_at hl 0 rfl) ?_
  refine zz_get C (zz_lt h0 (by decide)) (zz_c8 h0) rfl in_X8_best_X8 0 (by decide) (List.mem_of_getElem? (i := 1) rfl) rfl dX8_best_1 ?_
  refine zz_iload_n C dX8_best_4 rfl (lv_at hl 1 rfl) ?_
  refine zz_callVi (As := [.int x1]) (rest := []) C (m_X1_has l E 1 x1 (zz_s8_0 h0) M) (cwV 1 C.1.2.2.2.2 gX8_best_X1_has rfl rfl rfl hdV_X1_has ⟨Nat.le_of_ble_eq_true rfl, Nat.le_of_ble_eq_true rfl⟩) (zz_lt (zz_s8_0 h0) (by decide)) (zz_c1 (zz_s8_0 h0)) rfl rfl hl.1 rfl (Nat.le_of_ble_eq_true rfl) dX8_best_5 (fun r_1 M_2 => ?_)
  refine zz_if_ne (tgt := 18) C dX8_best_8 (by decide) (fun c_3 => ?_) (fun c_3 => ?_)
  · refine zz_aload_n C dX8_best_11 rfl (lv_at hl 0 rfl) ?_
    refine zz_ldc (v := -1000000001) C (List.mem_of_getElem? (i := 2) rfl) dX8_best_12 ?_
    refine zz_callVi (As := [.int (-1000000001 : Int32)]) (rest := []) C (m_X8_finding l E a0 (-1000000001 : Int32) h0 M_2) (cwV 1 C.1.2.2.2.2 gX8_best_X8_finding rfl rfl rfl hdV_X8_finding ⟨Nat.le_of_ble_eq_true rfl, Nat.le_of_ble_eq_true rfl⟩) (zz_lt h0 (by decide)) (zz_c8 h0) rfl rfl hl.1 rfl (Nat.le_of_ble_eq_true rfl) dX8_best_14 (fun r_10 M_11 => ?_)
    exact zz_iret C hr dX8_best_17
  · refine zz_aload_n C dX8_best_18 rfl (lv_at hl 0 rfl) ?_
    refine zz_get C (zz_lt h0 (by decide)) (zz_c8 h0) rfl in_X8_best_X8 0 (by decide) (List.mem_of_getElem? (i := 1) rfl) rfl dX8_best_19 ?_
    refine zz_get C (zz_lt (zz_s8_0 h0) (by decide)) (zz_c1 (zz_s8_0 h0)) rfl in_X8_best_X1 1 (by decide) (List.mem_of_getElem? (i := 3) rfl) rfl dX8_best_22 ?_
    refine zz_iload_n C dX8_best_25 rfl (lv_at hl 1 rfl) ?_
    refine zz_aald (t := 2) (g := fun i => (1 + 7) + 1 + 2 * i) C (zz_lt (zz_s1_1 (zz_s8_0 h0)) (by decide)) (zz_c18 (zz_s1_1 (zz_s8_0 h0))) rfl dX8_best_26 (fun b_4 => ?_)
    refine zz_astore_n (lv' := [(2, .ref (E.1 + ((1 + 7) + 1 + 2 * zz_n x1))), (0, .ref (E.1 + a0)), (1, .int x1)]) C dX8_best_27 rfl hl (by decide) rfl (fun ls hl => ?_)
    refine zz_aload_n C dX8_best_28 rfl (lv_at hl 0 rfl) ?_
    refine zz_callVi (As := []) (rest := []) C (m_X0_isThick l E ((1 + 7) + 1 + 2 * zz_n x1) (zz_e18 (zz_s1_1 (zz_s8_0 h0)) b_4) M_2) (cwV 0 C.1.2.2.2.2 gX8_best_X0_isThick rfl rfl rfl hdV_X0_isThick ⟨Nat.le_of_ble_eq_true rfl, Nat.le_of_ble_eq_true rfl⟩) (zz_lt (zz_e18 (zz_s1_1 (zz_s8_0 h0)) b_4) (by decide)) (zz_c0 (zz_e18 (zz_s1_1 (zz_s8_0 h0)) b_4)) rfl rfl hl.1 rfl (Nat.le_of_ble_eq_true rfl) dX8_best_29 (fun r_5 M_6 => ?_)
    refine zz_if_eq (tgt := 42) C dX8_best_32 (by decide) (fun c_7 => ?_) (fun c_7 => ?_)
    · refine zz_iconst (v := 0) C dX8_best_42 (by decide) ?_
      refine zz_istored_n (lv' := [(3, .int (0 : Int32)), (2, .ref (E.1 + ((1 + 7) + 1 + 2 * zz_n x1))), (0, .ref (E.1 + a0)), (1, .int x1)]) C dX8_best_43 rfl hl (by decide) rfl (fun ls hl => ?_)
      refine zz_iconst (v := -1) C dX8_best_44 (by decide) ?_
      refine zz_istored (lv' := [(4, .int (-1 : Int32)), (3, .int (0 : Int32)), (2, .ref (E.1 + ((1 + 7) + 1 + 2 * zz_n x1))), (0, .ref (E.1 + a0)), (1, .int x1)]) C dX8_best_45 hl (by decide) rfl (fun ls hl => ?_)
      refine zz_iconst (v := 0) C dX8_best_47 (by decide) ?_
      refine zz_istored (lv' := [(5, .int (0 : Int32)), (4, .int (-1 : Int32)), (3, .int (0 : Int32)), (2, .ref (E.1 + ((1 + 7) + 1 + 2 * zz_n x1))), (0, .ref (E.1 + a0)), (1, .int x1)]) C dX8_best_48 hl (by decide) rfl (fun ls hl => ?_)
      exact wb_X8_best_50 C hr  zz_fuel a0 ((1 + 7) + 1 + 2 * zz_n x1) (0 : Int32) (-1 : Int32) (0 : Int32) h0 (zz_e18 (zz_s1_1 (zz_s8_0 h0)) b_4) M_6 ls (lv_sub hl [4, 3, 2, 1, 0] rfl)
    · refine zz_aload_n C dX8_best_35 rfl (lv_at hl 1 rfl) ?_
      refine zz_ldc (v := -1000000005) C (List.mem_of_getElem? (i := 4) rfl) dX8_best_36 ?_
      refine zz_callVi (As := [.int (-1000000005 : Int32)]) (rest := []) C (m_X8_finding l E a0 (-1000000005 : Int32) h0 M_6) (cwV 1 C.1.2.2.2.2 gX8_best_X8_finding rfl rfl rfl hdV_X8_finding ⟨Nat.le_of_ble_eq_true rfl, Nat.le_of_ble_eq_true rfl⟩) (zz_lt h0 (by decide)) (zz_c8 h0) rfl rfl hl.1 rfl (Nat.le_of_ble_eq_true rfl) dX8_best_38 (fun r_8 M_9 => ?_)
      exact zz_iret C hr dX8_best_41
-- X8_kind ('X8', 'kind', '(III)I')
theorem in_X8_kind_X1 : ∀ w ∈ u_ws RX1 TX1 3, w ∈ wsX8_kind := fun _ h => List.mem_cons_of_mem _ (List.mem_append_left _ (List.mem_append_left _ (List.mem_append_left _ (List.mem_append_right _ h))))
theorem in_X8_kind_X7 : ∀ w ∈ u_ws RX7 TX7 4, w ∈ wsX8_kind := fun _ h => List.mem_cons_of_mem _ (List.mem_append_left _ (List.mem_append_left _ (List.mem_append_right _ h)))
theorem in_X8_kind_X8 : ∀ w ∈ u_ws RX8 TX8 11, w ∈ wsX8_kind := fun _ h => List.mem_cons_of_mem _ (List.mem_append_left _ (List.mem_append_left _ (List.mem_append_left _ (List.mem_append_left _ (List.mem_append_right _ h)))))
def b_X8_kind_96 (k44 : Nat → Int32 → Int32 → Int32 → Int32 → Int32 → Int32 → zz_M → Option (Int32 × zz_M)) (a0 : Nat) (x1 : Int32) (x2 : Int32) (x3 : Int32) (x4 : Int32) (x5 : Int32) (x6 : Int32) (M : zz_M) : Option (Int32 × zz_M) := zz_w (x6 + (1 : Int32)) (fun x6_22 => k44 a0 x1 x2 x3 x4 x5 x6_22 M)
set_option maxRecDepth 100000 in
set_option maxHeartbeats 4000000 in
theorem wb_X8_kind_96 {p : Program} {l : Launch} {e : Env} {s : State} {m : MethodId} {args : Array Value} {below : List Frame} {meth : Method} {c : Code} {E : zz_E} (C : zz_C E RX8 cX8_kind 8 wsX8_kind p s m args meth c) (hr : meth.sig.returnType = (some .int)) {k44 : Nat → Int32 → Int32 → Int32 → Int32 → Int32 → Int32 → zz_M → Option (Int32 × zz_M)} (hk44 : ∀ (a0 : Nat) (x1 : Int32) (x2 : Int32) (x3 : Int32) (x4 : Int32) (x5 : Int32) (x6 : Int32) (ha0 : zz_sh a0 = 8) (M : zz_M) (ls : Array Slot), lv_has ls 8 [(0, .ref (E.1 + a0)), (1, .int x1), (2, .int x2), (3, .int x3), (4, .int x4), (5, .int x5), (6, .int x6)] → zz_Z E p l e (zz_rm 5) s m args below meth c (zz_Q (zz_pi E) E below args s) (k44 a0 x1 x2 x3 x4 x5 x6 M) M (F0 m 44 ls [])) : ∀ (a0 : Nat) (x1 : Int32) (x2 : Int32) (x3 : Int32) (x4 : Int32) (x5 : Int32) (x6 : Int32) (ha0 : zz_sh a0 = 8) (M : zz_M) (ls : Array Slot), lv_has ls 8 [(0, .ref (E.1 + a0)), (1, .int x1), (2, .int x2), (3, .int x3), (4, .int x4), (5, .int x5), (6, .int x6)] → zz_Z E p l e (zz_rm 5) s m args below meth c (zz_Q (zz_pi E) E below args s) (b_X8_kind_96 k44 a0 x1 x2 x3 x4 x5 x6 M) M (F0 m 96 ls []) := by
  intro a0 x1 x2 x3 x4 x5 x6 ha0 M ls hl
  unfold b_X8_kind_96
  refine zz_iinc (k9 := 6) (d := 1) C (fun x6_22 => [(6, .int x6_22), (0, .ref (E.1 + a0)), (1, .int x1), (2, .int x2), (3, .int x3), (4, .int x4), (5, .int x5)]) dX8_kind_96 hl rfl (by decide) (by decide) (fun _ => rfl) (fun x6_22 ls hl => ?_)
  refine zz_goto (tgt := 44) C dX8_kind_99 (by decide) ?_
  exact hk44 a0 x1 x2 x3 x4 x5 x6_22 ha0 M ls (lv_sub hl [1, 2, 3, 4, 5, 6, 0] rfl)
def b_X8_kind_44 : Nat → Nat → Int32 → Int32 → Int32 → Int32 → Int32 → Int32 → zz_M → Option (Int32 × zz_M)
  | 0 => fun _ _ _ _ _ _ _ _ => none
  | n + 1 => fun a0 x1 x2 x3 x4 x5 x6 M => (if (6 : Int32) ≤ x6 then some (x4, M) else (if zz_in x1 10 = true then (if zz_in x2 4 = true then zz_bd (f_X8_minutesBehind a0 ((1 + 7) + 1 + 2 * zz_n x1) x6 (((1 + 1) + 1) + 1 + zz_n x2) x3 M) (fun r_19 M_20 => (if r_19 ≤ x5 then b_X8_kind_96 (b_X8_kind_44 n) a0 x1 x2 x3 x4 x5 x6 M_20 else b_X8_kind_96 (b_X8_kind_44 n) a0 x1 x2 x3 x6 r_19 x6 M_20)) else none) else none))
set_option maxRecDepth 100000 in
set_option maxHeartbeats 4000000 in
theorem wb_X8_kind_44 {p : Program} {l : Launch} {e : Env} {s : State} {m : MethodId} {args : Array Value} {below : List Frame} {meth : Method} {c : Code} {E : zz_E} (C : zz_C E RX8 cX8_kind 8 wsX8_kind p s m args meth c) (hr : meth.sig.returnType = (some .int)) : ∀ (n : Nat) (a0 : Nat) (x1 : Int32) (x2 : Int32) (x3 : Int32) (x4 : Int32) (x5 : Int32) (x6 : Int32) (ha0 : zz_sh a0 = 8) (M : zz_M) (ls : Array Slot), lv_has ls 8 [(0, .ref (E.1 + a0)), (1, .int x1), (2, .int x2), (3, .int x3), (4, .int x4), (5, .int x5), (6, .int x6)] → zz_Z E p l e (zz_rm 5) s m args below meth c (zz_Q (zz_pi E) E below args s) (b_X8_kind_44 n a0 x1 x2 x3 x4 x5 x6 M) M (F0 m 44 ls []) := by
  intro n
  induction n with
  | zero => intro a0 x1 x2 x3 x4 x5 x6 ha0 M ls hl; exact zz_none
  | succ n ih =>
    intro a0 x1 x2 x3 x4 x5 x6 ha0 M ls hl
    rw [b_X8_kind_44]
    refine zz_iload C dX8_kind_44 (lv_at hl 6 rfl) ?_
    refine zz_bipush (v := 6) C dX8_kind_46 (by decide) ?_
    refine zz_icmp_ge (tgt := 102) C dX8_kind_48 (by decide) (fun c_16 => ?_) (fun c_16 => ?_)
    · refine zz_iload C dX8_kind_102 (lv_at hl 4 rfl) ?_
      exact zz_iret C hr dX8_kind_104
    · refine zz_aload_n C dX8_kind_51 rfl (lv_at hl 0 rfl) ?_
      refine zz_aload_n C dX8_kind_52 rfl (lv_at hl 0 rfl) ?_
      refine zz_get C (zz_lt ha0 (by decide)) (zz_c8 ha0) rfl in_X8_kind_X8 0 (by decide) (List.mem_of_getElem? (i := 1) rfl) rfl dX8_kind_53 ?_
      refine zz_get C (zz_lt (zz_s8_0 ha0) (by decide)) (zz_c1 (zz_s8_0 ha0)) rfl in_X8_kind_X1 1 (by decide) (List.mem_of_getElem? (i := 3) rfl) rfl dX8_kind_56 ?_
      refine zz_iload_n C dX8_kind_59 rfl (lv_at hl 1 rfl) ?_
      refine zz_aald (t := 2) (g := fun i => (1 + 7) + 1 + 2 * i) C (zz_lt (zz_s1_1 (zz_s8_0 ha0)) (by decide)) (zz_c18 (zz_s1_1 (zz_s8_0 ha0))) rfl dX8_kind_60 (fun b_17 => ?_)
      refine zz_iload C dX8_kind_61 (lv_at hl 6 rfl) ?_
      refine zz_aload_n C dX8_kind_63 rfl (lv_at hl 0 rfl) ?_
      refine zz_get C (zz_lt ha0 (by decide)) (zz_c8 ha0) rfl in_X8_kind_X8 0 (by decide) (List.mem_of_getElem? (i := 1) rfl) rfl dX8_kind_64 ?_
      refine zz_get C (zz_lt (zz_s8_0 ha0) (by decide)) (zz_c1 (zz_s8_0 ha0)) rfl in_X8_kind_X1 0 (by decide) (List.mem_of_getElem? (i := 4) rfl) rfl dX8_kind_67 ?_
      refine zz_get C (zz_lt (zz_s1_0 (zz_s8_0 ha0)) (by decide)) (zz_c7 (zz_s1_0 (zz_s8_0 ha0))) rfl in_X8_kind_X7 0 (by decide) (List.mem_of_getElem? (i := 5) rfl) rfl dX8_kind_70 ?_
      refine zz_iload_n C dX8_kind_73 rfl (lv_at hl 2 rfl) ?_
      refine zz_aald (t := 4) (g := fun i => ((1 + 1) + 1) + 1 + i) C (zz_lt (zz_s7_0 (zz_s1_0 (zz_s8_0 ha0))) (by decide)) (zz_c21 (zz_s7_0 (zz_s1_0 (zz_s8_0 ha0)))) rfl dX8_kind_74 (fun b_18 => ?_)
      refine zz_iload_n C dX8_kind_75 rfl (lv_at hl 3 rfl) ?_
      refine zz_callVi (As := [.ref (E.1 + ((1 + 7) + 1 + 2 * zz_n x1)), .int x6, .ref (E.1 + (((1 + 1) + 1) + 1 + zz_n x2)), .int x3]) (rest := []) C (m_X8_minutesBehind l E a0 ((1 + 7) + 1 + 2 * zz_n x1) x6 (((1 + 1) + 1) + 1 + zz_n x2) x3 ha0 (zz_e18 (zz_s1_1 (zz_s8_0 ha0)) b_17) (zz_e21 (zz_s7_0 (zz_s1_0 (zz_s8_0 ha0))) b_18) M) (cwV 4 C.1.2.2.2.2 gX8_kind_X8_minutesBehind rfl rfl rfl hdV_X8_minutesBehind ⟨Nat.le_of_ble_eq_true rfl, Nat.le_of_ble_eq_true rfl⟩) (zz_lt ha0 (by decide)) (zz_c8 ha0) rfl rfl hl.1 rfl (Nat.le_of_ble_eq_true rfl) dX8_kind_76 (fun r_19 M_20 => ?_)
      refine zz_istored (lv' := [(7, .int r_19), (0, .ref (E.1 + a0)), (1, .int x1), (2, .int x2), (3, .int x3), (4, .int x4), (5, .int x5), (6, .int x6)]) C dX8_kind_79 hl (by decide) rfl (fun ls hl => ?_)
      refine zz_iload C dX8_kind_81 (lv_at hl 0 rfl) ?_
      refine zz_iload C dX8_kind_83 (lv_at hl 6 rfl) ?_
      refine zz_icmp_le (tgt := 96) C dX8_kind_85 (by decide) (fun c_21 => ?_) (fun c_21 => ?_)
      · exact wb_X8_kind_96 C hr ih a0 x1 x2 x3 x4 x5 x6 ha0 M_20 ls (lv_sub hl [1, 2, 3, 4, 5, 6, 7] rfl)
      · refine zz_iload C dX8_kind_88 (lv_at hl 0 rfl) ?_
        refine zz_istored (lv' := [(5, .int r_19), (7, .int r_19), (0, .ref (E.1 + a0)), (1, .int x1), (2, .int x2), (3, .int x3), (4, .int x4), (6, .int x6)]) C dX8_kind_90 hl (by decide) rfl (fun ls hl => ?_)
        refine zz_iload C dX8_kind_92 (lv_at hl 7 rfl) ?_
        refine zz_istored (lv' := [(4, .int x6), (5, .int r_19), (7, .int r_19), (0, .ref (E.1 + a0)), (1, .int x1), (2, .int x2), (3, .int x3), (6, .int x6)]) C dX8_kind_94 hl (by decide) rfl (fun ls hl => ?_)
        exact wb_X8_kind_96 C hr ih a0 x1 x2 x3 x6 r_19 x6 ha0 M_20 ls (lv_sub hl [3, 4, 5, 6, 0, 1, 7] rfl)
def f_X8_kind (a0 : Nat) (x1 : Int32) (x2 : Int32) (x3 : Int32) (M : zz_M) : Option (Int32 × zz_M) := zz_bd (f_X1_has 1 x1 M) (fun r_1 M_2 => (if r_1 = 0 then zz_bd (f_X8_finding a0 (-1000000001 : Int32) M_2) (fun r_4 M_5 => some (r_4, M_5)) else zz_bd (f_X8_isVat x2 M_2) (fun r_6 M_7 => (if r_6 = 0 then zz_bd (f_X8_finding a0 (-1000000001 : Int32) M_7) (fun r_9 M_10 => some (r_9, M_10)) else zz_bd (f_X8_within x3 (0 : Int32) (40 : Int32) M_7) (fun r_11 M_12 => (if r_11 = 0 then zz_bd (f_X8_finding a0 (-1000000001 : Int32) M_12) (fun r_14 M_15 => some (r_14, M_15)) else b_X8_kind_44  zz_fuel a0 x1 x2 x3 (0 : Int32) (-1 : Int32) (0 : Int32) M_12))))))
set_option maxRecDepth 100000 in
set_option maxHeartbeats 4000000 in
theorem m_X8_kind (l : Launch) (E : zz_E) (a0 : Nat) (x1 : Int32) (x2 : Int32) (x3 : Int32) (h0 : zz_sh a0 = 8) (M : zz_M) : zz_Met (zz_pi E) l yX8_kind wsX8_kind 5 E [.ref (E.1 + a0), .int x1, .int x2, .int x3] M (f_X8_kind a0 x1 x2 x3 M) := by
  refine zz_met (cc := cX8_kind) (nL := 8) (ret := (some .int)) (by decide) rfl (Nat.le_of_ble_eq_true rfl) ?_
  intro p e s m below meth c C hr ls hl
  have C : zz_C E RX8 cX8_kind 8 wsX8_kind p s m [.ref (E.1 + a0), .int x1, .int x2, .int x3].toArray meth c := C
  have hl : lv_has ls 8 [(0, .ref (E.1 + a0)), (1, .int x1), (2, .int x2), (3, .int x3)] := hl
  unfold f_X8_kind
  refine zz_aload_n C dX8_kind_0 rfl (lv_at hl 0 rfl) ?_
  refine zz_get C (zz_lt h0 (by decide)) (zz_c8 h0) rfl in_X8_kind_X8 0 (by decide) (List.mem_of_getElem? (i := 1) rfl) rfl dX8_kind_1 ?_
  refine zz_iload_n C dX8_kind_4 rfl (lv_at hl 1 rfl) ?_
  refine zz_callVi (As := [.int x1]) (rest := []) C (m_X1_has l E 1 x1 (zz_s8_0 h0) M) (cwV 1 C.1.2.2.2.2 gX8_kind_X1_has rfl rfl rfl hdV_X1_has ⟨Nat.le_of_ble_eq_true rfl, Nat.le_of_ble_eq_true rfl⟩) (zz_lt (zz_s8_0 h0) (by decide)) (zz_c1 (zz_s8_0 h0)) rfl rfl hl.1 rfl (Nat.le_of_ble_eq_true rfl) dX8_kind_5 (fun r_1 M_2 => ?_)
  refine zz_if_eq (tgt := 28) C dX8_kind_8 (by decide) (fun c_3 => ?_) (fun c_3 => ?_)
  · refine zz_aload_n C dX8_kind_28 rfl (lv_at hl 0 rfl) ?_
    refine zz_ldc (v := -1000000001) C (List.mem_of_getElem? (i := 2) rfl) dX8_kind_29 ?_
    refine zz_callVi (As := [.int (-1000000001 : Int32)]) (rest := []) C (m_X8_finding l E a0 (-1000000001 : Int32) h0 M_2) (cwV 1 C.1.2.2.2.2 gX8_kind_X8_finding rfl rfl rfl hdV_X8_finding ⟨Nat.le_of_ble_eq_true rfl, Nat.le_of_ble_eq_true rfl⟩) (zz_lt h0 (by decide)) (zz_c8 h0) rfl rfl hl.1 rfl (Nat.le_of_ble_eq_true rfl) dX8_kind_31 (fun r_4 M_5 => ?_)
    exact zz_iret C hr dX8_kind_34
  · refine zz_iload_n C dX8_kind_11 rfl (lv_at hl 2 rfl) ?_
    refine zz_callSi (As := [.int x2]) (rest := []) C (m_X8_isVat l E x2  M_2) (va_cwS 1 C.1.2.2.2.2 gX8_kind_X8_isVat rfl rfl rfl hdS_X8_isVat ⟨Nat.le_of_ble_eq_true rfl, Nat.le_of_ble_eq_true rfl⟩) rfl hl.1 rfl (Nat.le_of_ble_eq_true rfl) dX8_kind_12 (fun r_6 M_7 => ?_)
    refine zz_if_eq (tgt := 28) C dX8_kind_15 (by decide) (fun c_8 => ?_) (fun c_8 => ?_)
    · refine zz_aload_n C dX8_kind_28 rfl (lv_at hl 0 rfl) ?_
      refine zz_ldc (v := -1000000001) C (List.mem_of_getElem? (i := 2) rfl) dX8_kind_29 ?_
      refine zz_callVi (As := [.int (-1000000001 : Int32)]) (rest := []) C (m_X8_finding l E a0 (-1000000001 : Int32) h0 M_7) (cwV 1 C.1.2.2.2.2 gX8_kind_X8_finding rfl rfl rfl hdV_X8_finding ⟨Nat.le_of_ble_eq_true rfl, Nat.le_of_ble_eq_true rfl⟩) (zz_lt h0 (by decide)) (zz_c8 h0) rfl rfl hl.1 rfl (Nat.le_of_ble_eq_true rfl) dX8_kind_31 (fun r_9 M_10 => ?_)
      exact zz_iret C hr dX8_kind_34
    · refine zz_iload_n C dX8_kind_18 rfl (lv_at hl 3 rfl) ?_
      refine zz_iconst (v := 0) C dX8_kind_19 (by decide) ?_
      refine zz_bipush (v := 40) C dX8_kind_20 (by decide) ?_
      refine zz_callSi (As := [.int x3, .int (0 : Int32), .int (40 : Int32)]) (rest := []) C (m_X8_within l E x3 (0 : Int32) (40 : Int32)  M_7) (va_cwS 3 C.1.2.2.2.2 gX8_kind_X8_within rfl rfl rfl hdS_X8_within ⟨Nat.le_of_ble_eq_true rfl, Nat.le_of_ble_eq_true rfl⟩) rfl hl.1 rfl (Nat.le_of_ble_eq_true rfl) dX8_kind_22 (fun r_11 M_12 => ?_)
      refine zz_if_ne (tgt := 35) C dX8_kind_25 (by decide) (fun c_13 => ?_) (fun c_13 => ?_)
      · refine zz_aload_n C dX8_kind_28 rfl (lv_at hl 0 rfl) ?_
        refine zz_ldc (v := -1000000001) C (List.mem_of_getElem? (i := 2) rfl) dX8_kind_29 ?_
        refine zz_callVi (As := [.int (-1000000001 : Int32)]) (rest := []) C (m_X8_finding l E a0 (-1000000001 : Int32) h0 M_12) (cwV 1 C.1.2.2.2.2 gX8_kind_X8_finding rfl rfl rfl hdV_X8_finding ⟨Nat.le_of_ble_eq_true rfl, Nat.le_of_ble_eq_true rfl⟩) (zz_lt h0 (by decide)) (zz_c8 h0) rfl rfl hl.1 rfl (Nat.le_of_ble_eq_true rfl) dX8_kind_31 (fun r_14 M_15 => ?_)
        exact zz_iret C hr dX8_kind_34
      · refine zz_iconst (v := 0) C dX8_kind_35 (by decide) ?_
        refine zz_istored (lv' := [(4, .int (0 : Int32)), (0, .ref (E.1 + a0)), (1, .int x1), (2, .int x2), (3, .int x3)]) C dX8_kind_36 hl (by decide) rfl (fun ls hl => ?_)
        refine zz_iconst (v := -1) C dX8_kind_38 (by decide) ?_
        refine zz_istored (lv' := [(5, .int (-1 : Int32)), (4, .int (0 : Int32)), (0, .ref (E.1 + a0)), (1, .int x1), (2, .int x2), (3, .int x3)]) C dX8_kind_39 hl (by decide) rfl (fun ls hl => ?_)
        refine zz_iconst (v := 0) C dX8_kind_41 (by decide) ?_
        refine zz_istored (lv' := [(6, .int (0 : Int32)), (5, .int (-1 : Int32)), (4, .int (0 : Int32)), (0, .ref (E.1 + a0)), (1, .int x1), (2, .int x2), (3, .int x3)]) C dX8_kind_42 hl (by decide) rfl (fun ls hl => ?_)
        exact wb_X8_kind_44 C hr  zz_fuel a0 x1 x2 x3 (0 : Int32) (-1 : Int32) (0 : Int32) h0 M_12 ls (lv_sub hl [3, 4, 5, 6, 2, 1, 0] rfl)
-- X8_fires ('X8', 'fires', '(II)I')
theorem in_X8_fires_X1 : ∀ w ∈ u_ws RX1 TX1 3, w ∈ wsX8_fires := fun _ h => List.mem_cons_of_mem _ (List.mem_append_left _ (List.mem_append_left _ (List.mem_append_right _ h)))
theorem in_X8_fires_X7 : ∀ w ∈ u_ws RX7 TX7 4, w ∈ wsX8_fires := fun _ h => List.mem_cons_of_mem _ (List.mem_append_left _ (List.mem_append_right _ h))
theorem in_X8_fires_X8 : ∀ w ∈ u_ws RX8 TX8 11, w ∈ wsX8_fires := fun _ h => List.mem_cons_of_mem _ (List.mem_append_left _ (List.mem_append_left _ (List.mem_append_left _ (List.mem_append_right _ h))))
theorem hdV_X7_coldest : yX7_coldest.cls = RX7 ∧ yX7_coldest.cls ≠ "java/lang/invoke/MethodHandle" ∧ yX7_coldest.cls ≠ "java/lang/invoke/VarHandle" ∧ (parseMethodDescriptor yX7_coldest.desc).map (fun d => d.parameters.length) = some 0 := by decide +kernel
theorem hdV_X7_light : yX7_light.cls = RX7 ∧ yX7_light.cls ≠ "java/lang/invoke/MethodHandle" ∧ yX7_light.cls ≠ "java/lang/invoke/VarHandle" ∧ (parseMethodDescriptor yX7_light.desc).map (fun d => d.parameters.length) = some 1 := by decide +kernel
def b_X8_fires_133 (k60 : Nat → Int32 → Int32 → Int32 → Int32 → Int32 → zz_M → Option (Int32 × zz_M)) (a0 : Nat) (x1 : Int32) (x2 : Int32) (x3 : Int32) (x4 : Int32) (x5 : Int32) (M : zz_M) : Option (Int32 × zz_M) := zz_w (x5 + (1 : Int32)) (fun x5_26 => k60 a0 x1 x2 x3 x4 x5_26 M)
set_option maxRecDepth 100000 in
set_option maxHeartbeats 4000000 in
theorem wb_X8_fires_133 {p : Program} {l : Launch} {e : Env} {s : State} {m : MethodId} {args : Array Value} {below : List Frame} {meth : Method} {c : Code} {E : zz_E} (C : zz_C E RX8 cX8_fires 6 wsX8_fires p s m args meth c) (hr : meth.sig.returnType = (some .int)) {k60 : Nat → Int32 → Int32 → Int32 → Int32 → Int32 → zz_M → Option (Int32 × zz_M)} (hk60 : ∀ (a0 : Nat) (x1 : Int32) (x2 : Int32) (x3 : Int32) (x4 : Int32) (x5 : Int32) (ha0 : zz_sh a0 = 8) (M : zz_M) (ls : Array Slot), lv_has ls 6 [(0, .ref (E.1 + a0)), (1, .int x1), (2, .int x2), (3, .int x3), (4, .int x4), (5, .int x5)] → zz_Z E p l e (zz_rm 4) s m args below meth c (zz_Q (zz_pi E) E below args s) (k60 a0 x1 x2 x3 x4 x5 M) M (F0 m 60 ls [])) : ∀ (a0 : Nat) (x1 : Int32) (x2 : Int32) (x3 : Int32) (x4 : Int32) (x5 : Int32) (ha0 : zz_sh a0 = 8) (M : zz_M) (ls : Array Slot), lv_has ls 6 [(0, .ref (E.1 + a0)), (1, .int x1), (2, .int x2), (3, .int x3), (4, .int x4), (5, .int x5)] → zz_Z E p l e (zz_rm 4) s m args below meth c (zz_Q (zz_pi E) E below args s) (b_X8_fires_133 k60 a0 x1 x2 x3 x4 x5 M) M (F0 m 133 ls []) := by
  intro a0 x1 x2 x3 x4 x5 ha0 M ls hl
  unfold b_X8_fires_133
  refine zz_iinc (k9 := 5) (d := 1) C (fun x5_26 => [(5, .int x5_26), (0, .ref (E.1 + a0)), (1, .int x1), (2, .int x2), (3, .int x3), (4, .int x4)]) dX8_fires_133 hl rfl (by decide) (by decide) (fun _ => rfl) (fun x5_26 ls hl => ?_)
  refine zz_goto (tgt := 60) C dX8_fires_136 (by decide) ?_
  exact hk60 a0 x1 x2 x3 x4 x5_26 ha0 M ls (lv_sub hl [1, 2, 3, 4, 5, 0] rfl)
def b_X8_fires_60 : Nat → Nat → Int32 → Int32 → Int32 → Int32 → Int32 → zz_M → Option (Int32 × zz_M)
  | 0 => fun _ _ _ _ _ _ _ => none
  | n + 1 => fun a0 x1 x2 x3 x4 x5 M => (if (16 : Int32) ≤ x5 then (if 0 ≤ x3 then some (x3, M) else zz_bd (f_X8_finding a0 (-1000000004 : Int32) M) (fun r_16 M_17 => some (r_16, M_17))) else zz_bd (f_X7_become 57 (1 + 1) M) (fun _ M_18 => zz_bd (f_X7_light 57 x5 M_18) (fun _ M_19 => zz_bd (f_X7_pass 57 x2 M_19) (fun _ M_20 => zz_bd (f_X7_coldest 57 M_20) (fun r_21 M_22 => (if r_21 < x1 then b_X8_fires_133 (b_X8_fires_60 n) a0 x1 x2 x3 x4 x5 M_22 else (if (zz_i M_22 57 1) ≤ x4 then b_X8_fires_133 (b_X8_fires_60 n) a0 x1 x2 x3 x4 x5 M_22 else zz_w (zz_i M_22 57 1) (fun x4_25 => b_X8_fires_133 (b_X8_fires_60 n) a0 x1 x2 x5 x4_25 x5 M_22))))))))
set_option maxRecDepth 100000 in
set_option maxHeartbeats 4000000 in
theorem wb_X8_fires_60 {p : Program} {l : Launch} {e : Env} {s : State} {m : MethodId} {args : Array Value} {below : List Frame} {meth : Method} {c : Code} {E : zz_E} (C : zz_C E RX8 cX8_fires 6 wsX8_fires p s m args meth c) (hr : meth.sig.returnType = (some .int)) : ∀ (n : Nat) (a0 : Nat) (x1 : Int32) (x2 : Int32) (x3 : Int32) (x4 : Int32) (x5 : Int32) (ha0 : zz_sh a0 = 8) (M : zz_M) (ls : Array Slot), lv_has ls 6 [(0, .ref (E.1 + a0)), (1, .int x1), (2, .int x2), (3, .int x3), (4, .int x4), (5, .int x5)] → zz_Z E p l e (zz_rm 4) s m args below meth c (zz_Q (zz_pi E) E below args s) (b_X8_fires_60 n a0 x1 x2 x3 x4 x5 M) M (F0 m 60 ls []) := by
  intro n
  induction n with
  | zero => intro a0 x1 x2 x3 x4 x5 ha0 M ls hl; exact zz_none
  | succ n ih =>
    intro a0 x1 x2 x3 x4 x5 ha0 M ls hl
    rw [b_X8_fires_60]
    refine zz_iload C dX8_fires_60 (lv_at hl 5 rfl) ?_
    refine zz_bipush (v := 16) C dX8_fires_62 (by decide) ?_
    refine zz_icmp_ge (tgt := 139) C dX8_fires_64 (by decide) (fun c_14 => ?_) (fun c_14 => ?_)
    · refine zz_iload_n C dX8_fires_139 rfl (lv_at hl 3 rfl) ?_
      refine zz_if_ge (tgt := 150) C dX8_fires_140 (by decide) (fun c_15 => ?_) (fun c_15 => ?_)
      · refine zz_iload_n C dX8_fires_150 rfl (lv_at hl 3 rfl) ?_
        exact zz_iret C hr dX8_fires_151
      · refine zz_aload_n C dX8_fires_143 rfl (lv_at hl 0 rfl) ?_
        refine zz_ldc (v := -1000000004) C (List.mem_of_getElem? (i := 8) rfl) dX8_fires_144 ?_
        refine zz_callVi (As := [.int (-1000000004 : Int32)]) (rest := []) C (m_X8_finding l E a0 (-1000000004 : Int32) ha0 M) (cwV 1 C.1.2.2.2.2 gX8_fires_X8_finding rfl rfl rfl hdV_X8_finding ⟨Nat.le_of_ble_eq_true rfl, Nat.le_of_ble_eq_true rfl⟩) (zz_lt ha0 (by decide)) (zz_c8 ha0) rfl rfl hl.1 rfl (Nat.le_of_ble_eq_true rfl) dX8_fires_146 (fun r_16 M_17 => ?_)
        exact zz_iret C hr dX8_fires_149
    · refine zz_aload_n C dX8_fires_67 rfl (lv_at hl 0 rfl) ?_
      refine zz_get C (zz_lt ha0 (by decide)) (zz_c8 ha0) rfl in_X8_fires_X8 3 (by decide) (List.mem_of_getElem? (i := 6) rfl) rfl dX8_fires_68 ?_
      refine zz_aload_n C dX8_fires_71 rfl (lv_at hl 0 rfl) ?_
      refine zz_get C (zz_lt ha0 (by decide)) (zz_c8 ha0) rfl in_X8_fires_X8 0 (by decide) (List.mem_of_getElem? (i := 2) rfl) rfl dX8_fires_72 ?_
      refine zz_get C (zz_lt (zz_s8_0 ha0) (by decide)) (zz_c1 (zz_s8_0 ha0)) rfl in_X8_fires_X1 0 (by decide) (List.mem_of_getElem? (i := 3) rfl) rfl dX8_fires_75 ?_
      refine zz_callVv (As := [.ref (E.1 + (1 + 1))]) (rest := []) C (m_X7_become l E 57 (1 + 1) (zz_s8_3 ha0) (zz_s1_0 (zz_s8_0 ha0)) M) (cwV 1 C.1.2.2.2.2 gX8_fires_X7_become rfl rfl rfl hdV_X7_become ⟨Nat.le_of_ble_eq_true rfl, Nat.le_of_ble_eq_true rfl⟩) (zz_lt (zz_s8_3 ha0) (by decide)) (zz_c7 (zz_s8_3 ha0)) rfl rfl hl.1 rfl (Nat.le_of_ble_eq_true rfl) dX8_fires_78 (fun _ M_18 => ?_)
      refine zz_aload_n C dX8_fires_81 rfl (lv_at hl 0 rfl) ?_
      refine zz_get C (zz_lt ha0 (by decide)) (zz_c8 ha0) rfl in_X8_fires_X8 3 (by decide) (List.mem_of_getElem? (i := 6) rfl) rfl dX8_fires_82 ?_
      refine zz_iload C dX8_fires_85 (lv_at hl 5 rfl) ?_
      refine zz_callVv (As := [.int x5]) (rest := []) C (m_X7_light l E 57 x5 (zz_s8_3 ha0) M_18) (cwV 1 C.1.2.2.2.2 gX8_fires_X7_light rfl rfl rfl hdV_X7_light ⟨Nat.le_of_ble_eq_true rfl, Nat.le_of_ble_eq_true rfl⟩) (zz_lt (zz_s8_3 ha0) (by decide)) (zz_c7 (zz_s8_3 ha0)) rfl rfl hl.1 rfl (Nat.le_of_ble_eq_true rfl) dX8_fires_87 (fun _ M_19 => ?_)
      refine zz_aload_n C dX8_fires_90 rfl (lv_at hl 0 rfl) ?_
      refine zz_get C (zz_lt ha0 (by decide)) (zz_c8 ha0) rfl in_X8_fires_X8 3 (by decide) (List.mem_of_getElem? (i := 6) rfl) rfl dX8_fires_91 ?_
      refine zz_iload_n C dX8_fires_94 rfl (lv_at hl 2 rfl) ?_
      refine zz_callVv (As := [.int x2]) (rest := []) C (m_X7_pass l E 57 x2 (zz_s8_3 ha0) M_19) (cwV 1 C.1.2.2.2.2 gX8_fires_X7_pass rfl rfl rfl hdV_X7_pass ⟨Nat.le_of_ble_eq_true rfl, Nat.le_of_ble_eq_true rfl⟩) (zz_lt (zz_s8_3 ha0) (by decide)) (zz_c7 (zz_s8_3 ha0)) rfl rfl hl.1 rfl (Nat.le_of_ble_eq_true rfl) dX8_fires_95 (fun _ M_20 => ?_)
      refine zz_aload_n C dX8_fires_98 rfl (lv_at hl 0 rfl) ?_
      refine zz_get C (zz_lt ha0 (by decide)) (zz_c8 ha0) rfl in_X8_fires_X8 3 (by decide) (List.mem_of_getElem? (i := 6) rfl) rfl dX8_fires_99 ?_
      refine zz_callVi (As := []) (rest := []) C (m_X7_coldest l E 57 (zz_s8_3 ha0) M_20) (cwV 0 C.1.2.2.2.2 gX8_fires_X7_coldest rfl rfl rfl hdV_X7_coldest ⟨Nat.le_of_ble_eq_true rfl, Nat.le_of_ble_eq_true rfl⟩) (zz_lt (zz_s8_3 ha0) (by decide)) (zz_c7 (zz_s8_3 ha0)) rfl rfl hl.1 rfl (Nat.le_of_ble_eq_true rfl) dX8_fires_102 (fun r_21 M_22 => ?_)
      refine zz_iload_n C dX8_fires_105 rfl (lv_at hl 1 rfl) ?_
      refine zz_icmp_lt (tgt := 133) C dX8_fires_106 (by decide) (fun c_23 => ?_) (fun c_23 => ?_)
      · exact wb_X8_fires_133 C hr ih a0 x1 x2 x3 x4 x5 ha0 M_22 ls (lv_sub hl [0, 1, 2, 3, 4, 5] rfl)
      · refine zz_aload_n C dX8_fires_109 rfl (lv_at hl 0 rfl) ?_
        refine zz_get C (zz_lt ha0 (by decide)) (zz_c8 ha0) rfl in_X8_fires_X8 3 (by decide) (List.mem_of_getElem? (i := 6) rfl) rfl dX8_fires_110 ?_
        refine zz_get C (zz_lt (zz_s8_3 ha0) (by decide)) (zz_c7 (zz_s8_3 ha0)) rfl in_X8_fires_X7 1 (by decide) (List.mem_of_getElem? (i := 7) rfl) rfl dX8_fires_113 ?_
        refine zz_iload C dX8_fires_116 (lv_at hl 4 rfl) ?_
        refine zz_icmp_le (tgt := 133) C dX8_fires_118 (by decide) (fun c_24 => ?_) (fun c_24 => ?_)
        · exact wb_X8_fires_133 C hr ih a0 x1 x2 x3 x4 x5 ha0 M_22 ls (lv_sub hl [0, 1, 2, 3, 4, 5] rfl)
        · refine zz_aload_n C dX8_fires_121 rfl (lv_at hl 0 rfl) ?_
          refine zz_get C (zz_lt ha0 (by decide)) (zz_c8 ha0) rfl in_X8_fires_X8 3 (by decide) (List.mem_of_getElem? (i := 6) rfl) rfl dX8_fires_122 ?_
          refine zz_get C (zz_lt (zz_s8_3 ha0) (by decide)) (zz_c7 (zz_s8_3 ha0)) rfl in_X8_fires_X7 1 (by decide) (List.mem_of_getElem? (i := 7) rfl) rfl dX8_fires_125 ?_
          refine zz_istore C (fun x4_25 => [(4, .int x4_25), (0, .ref (E.1 + a0)), (1, .int x1), (2, .int x2), (3, .int x3), (5, .int x5)]) dX8_fires_128 hl (by decide) (fun _ => rfl) (fun x4_25 ls hl => ?_)
          refine zz_iload C dX8_fires_130 (lv_at hl 5 rfl) ?_
          refine zz_istored_n (lv' := [(3, .int x5), (4, .int x4_25), (0, .ref (E.1 + a0)), (1, .int x1), (2, .int x2), (5, .int x5)]) C dX8_fires_132 rfl hl (by decide) rfl (fun ls hl => ?_)
          exact wb_X8_fires_133 C hr ih a0 x1 x2 x5 x4_25 x5 ha0 M_22 ls (lv_sub hl [2, 3, 4, 0, 1, 5] rfl)
def f_X8_fires (a0 : Nat) (x1 : Int32) (x2 : Int32) (M : zz_M) : Option (Int32 × zz_M) := zz_bd (f_X8_within x1 (0 : Int32) (99 : Int32) M) (fun r_1 M_2 => (if r_1 = 0 then zz_bd (f_X8_finding a0 (-1000000001 : Int32) M_2) (fun r_4 M_5 => some (r_4, M_5)) else zz_bd (f_X8_within x2 (1 : Int32) (100 : Int32) M_2) (fun r_6 M_7 => (if r_6 = 0 then zz_bd (f_X8_finding a0 (-1000000001 : Int32) M_7) (fun r_12 M_13 => some (r_12, M_13)) else (if ((zz_i M_7 (1 + 1) 3) + x2) ≤ (9999 : Int32) then b_X8_fires_60  zz_fuel a0 x1 x2 (-1 : Int32) (-1 : Int32) (0 : Int32) M_7 else zz_bd (f_X8_finding a0 (-1000000005 : Int32) M_7) (fun r_10 M_11 => some (r_10, M_11)))))))
set_option maxRecDepth 100000 in
set_option maxHeartbeats 4000000 in
theorem m_X8_fires (l : Launch) (E : zz_E) (a0 : Nat) (x1 : Int32) (x2 : Int32) (h0 : zz_sh a0 = 8) (M : zz_M) : zz_Met (zz_pi E) l yX8_fires wsX8_fires 4 E [.ref (E.1 + a0), .int x1, .int x2] M (f_X8_fires a0 x1 x2 M) := by
  refine zz_met (cc := cX8_fires) (nL := 6) (ret := (some .int)) (by decide) rfl (Nat.le_of_ble_eq_true rfl) ?_
  intro p e s m below meth c C hr ls hl
  have C : zz_C E RX8 cX8_fires 6 wsX8_fires p s m [.ref (E.1 + a0), .int x1, .int x2].toArray meth c := C
  have hl : lv_has ls 6 [(0, .ref (E.1 + a0)), (1, .int x1), (2, .int x2)] := hl
  unfold f_X8_fires
  refine zz_iload_n C dX8_fires_0 rfl (lv_at hl 1 rfl) ?_
  refine zz_iconst (v := 0) C dX8_fires_1 (by decide) ?_
  refine zz_bipush (v := 99) C dX8_fires_2 (by decide) ?_
  refine zz_callSi (As := [.int x1, .int (0 : Int32), .int (99 : Int32)]) (rest := []) C (m_X8_within l E x1 (0 : Int32) (99 : Int32)  M) (va_cwS 3 C.1.2.2.2.2 gX8_fires_X8_within rfl rfl rfl hdS_X8_within ⟨Nat.le_of_ble_eq_true rfl, Nat.le_of_ble_eq_true rfl⟩) rfl hl.1 rfl (Nat.le_of_ble_eq_true rfl) dX8_fires_4 (fun r_1 M_2 => ?_)
  refine zz_if_eq (tgt := 20) C dX8_fires_7 (by decide) (fun c_3 => ?_) (fun c_3 => ?_)
  · refine zz_aload_n C dX8_fires_20 rfl (lv_at hl 0 rfl) ?_
    refine zz_ldc (v := -1000000001) C (List.mem_of_getElem? (i := 1) rfl) dX8_fires_21 ?_
    refine zz_callVi (As := [.int (-1000000001 : Int32)]) (rest := []) C (m_X8_finding l E a0 (-1000000001 : Int32) h0 M_2) (cwV 1 C.1.2.2.2.2 gX8_fires_X8_finding rfl rfl rfl hdV_X8_finding ⟨Nat.le_of_ble_eq_true rfl, Nat.le_of_ble_eq_true rfl⟩) (zz_lt h0 (by decide)) (zz_c8 h0) rfl rfl hl.1 rfl (Nat.le_of_ble_eq_true rfl) dX8_fires_23 (fun r_4 M_5 => ?_)
    exact zz_iret C hr dX8_fires_26
  · refine zz_iload_n C dX8_fires_10 rfl (lv_at hl 2 rfl) ?_
    refine zz_iconst (v := 1) C dX8_fires_11 (by decide) ?_
    refine zz_bipush (v := 100) C dX8_fires_12 (by decide) ?_
    refine zz_callSi (As := [.int x2, .int (1 : Int32), .int (100 : Int32)]) (rest := []) C (m_X8_within l E x2 (1 : Int32) (100 : Int32)  M_2) (va_cwS 3 C.1.2.2.2.2 gX8_fires_X8_within rfl rfl rfl hdS_X8_within ⟨Nat.le_of_ble_eq_true rfl, Nat.le_of_ble_eq_true rfl⟩) rfl hl.1 rfl (Nat.le_of_ble_eq_true rfl) dX8_fires_14 (fun r_6 M_7 => ?_)
    refine zz_if_ne (tgt := 27) C dX8_fires_17 (by decide) (fun c_8 => ?_) (fun c_8 => ?_)
    · refine zz_aload_n C dX8_fires_20 rfl (lv_at hl 0 rfl) ?_
      refine zz_ldc (v := -1000000001) C (List.mem_of_getElem? (i := 1) rfl) dX8_fires_21 ?_
      refine zz_callVi (As := [.int (-1000000001 : Int32)]) (rest := []) C (m_X8_finding l E a0 (-1000000001 : Int32) h0 M_7) (cwV 1 C.1.2.2.2.2 gX8_fires_X8_finding rfl rfl rfl hdV_X8_finding ⟨Nat.le_of_ble_eq_true rfl, Nat.le_of_ble_eq_true rfl⟩) (zz_lt h0 (by decide)) (zz_c8 h0) rfl rfl hl.1 rfl (Nat.le_of_ble_eq_true rfl) dX8_fires_23 (fun r_12 M_13 => ?_)
      exact zz_iret C hr dX8_fires_26
    · refine zz_aload_n C dX8_fires_27 rfl (lv_at hl 0 rfl) ?_
      refine zz_get C (zz_lt h0 (by decide)) (zz_c8 h0) rfl in_X8_fires_X8 0 (by decide) (List.mem_of_getElem? (i := 2) rfl) rfl dX8_fires_28 ?_
      refine zz_get C (zz_lt (zz_s8_0 h0) (by decide)) (zz_c1 (zz_s8_0 h0)) rfl in_X8_fires_X1 0 (by decide) (List.mem_of_getElem? (i := 3) rfl) rfl dX8_fires_31 ?_
      refine zz_get C (zz_lt (zz_s1_0 (zz_s8_0 h0)) (by decide)) (zz_c7 (zz_s1_0 (zz_s8_0 h0))) rfl in_X8_fires_X7 3 (by decide) (List.mem_of_getElem? (i := 4) rfl) rfl dX8_fires_34 ?_
      refine zz_iload_n C dX8_fires_37 rfl (lv_at hl 2 rfl) ?_
      refine zz_iadd C dX8_fires_38 ?_
      refine zz_sipush (v := 9999) C dX8_fires_39 (by decide) ?_
      refine zz_icmp_le (tgt := 52) C dX8_fires_42 (by decide) (fun c_9 => ?_) (fun c_9 => ?_)
      · refine zz_iconst (v := -1) C dX8_fires_52 (by decide) ?_
        refine zz_istored_n (lv' := [(3, .int (-1 : Int32)), (0, .ref (E.1 + a0)), (1, .int x1), (2, .int x2)]) C dX8_fires_53 rfl hl (by decide) rfl (fun ls hl => ?_)
        refine zz_iconst (v := -1) C dX8_fires_54 (by decide) ?_
        refine zz_istored (lv' := [(4, .int (-1 : Int32)), (3, .int (-1 : Int32)), (0, .ref (E.1 + a0)), (1, .int x1), (2, .int x2)]) C dX8_fires_55 hl (by decide) rfl (fun ls hl => ?_)
        refine zz_iconst (v := 0) C dX8_fires_57 (by decide) ?_
        refine zz_istored (lv' := [(5, .int (0 : Int32)), (4, .int (-1 : Int32)), (3, .int (-1 : Int32)), (0, .ref (E.1 + a0)), (1, .int x1), (2, .int x2)]) C dX8_fires_58 hl (by decide) rfl (fun ls hl => ?_)
        exact wb_X8_fires_60 C hr  zz_fuel a0 x1 x2 (-1 : Int32) (-1 : Int32) (0 : Int32) h0 M_7 ls (lv_sub hl [3, 4, 5, 2, 1, 0] rfl)
      · refine zz_aload_n C dX8_fires_45 rfl (lv_at hl 0 rfl) ?_
        refine zz_ldc (v := -1000000005) C (List.mem_of_getElem? (i := 5) rfl) dX8_fires_46 ?_
        refine zz_callVi (As := [.int (-1000000005 : Int32)]) (rest := []) C (m_X8_finding l E a0 (-1000000005 : Int32) h0 M_7) (cwV 1 C.1.2.2.2.2 gX8_fires_X8_finding rfl rfl rfl hdV_X8_finding ⟨Nat.le_of_ble_eq_true rfl, Nat.le_of_ble_eq_true rfl⟩) (zz_lt h0 (by decide)) (zz_c8 h0) rfl rfl hl.1 rfl (Nat.le_of_ble_eq_true rfl) dX8_fires_48 (fun r_10 M_11 => ?_)
        exact zz_iret C hr dX8_fires_51
-- X8_enough ('X8', 'enough', '(I)I')
theorem in_X8_enough_X1 : ∀ w ∈ u_ws RX1 TX1 3, w ∈ wsX8_enough := fun _ h => List.mem_cons_of_mem _ (List.mem_append_left _ (List.mem_append_right _ h))
theorem in_X8_enough_X8 : ∀ w ∈ u_ws RX8 TX8 11, w ∈ wsX8_enough := fun _ h => List.mem_cons_of_mem _ (List.mem_append_left _ (List.mem_append_left _ (List.mem_append_right _ h)))
def b_X8_enough_55 (k22 : Nat → Int32 → Int32 → Int32 → zz_M → Option (Int32 × zz_M)) (a0 : Nat) (x1 : Int32) (x2 : Int32) (x3 : Int32) (M : zz_M) : Option (Int32 × zz_M) := zz_w (x3 + (1 : Int32)) (fun x3_12 => k22 a0 x1 x2 x3_12 M)
set_option maxRecDepth 100000 in
set_option maxHeartbeats 4000000 in
theorem wb_X8_enough_55 {p : Program} {l : Launch} {e : Env} {s : State} {m : MethodId} {args : Array Value} {below : List Frame} {meth : Method} {c : Code} {E : zz_E} (C : zz_C E RX8 cX8_enough 4 wsX8_enough p s m args meth c) (hr : meth.sig.returnType = (some .int)) {k22 : Nat → Int32 → Int32 → Int32 → zz_M → Option (Int32 × zz_M)} (hk22 : ∀ (a0 : Nat) (x1 : Int32) (x2 : Int32) (x3 : Int32) (ha0 : zz_sh a0 = 8) (M : zz_M) (ls : Array Slot), lv_has ls 4 [(0, .ref (E.1 + a0)), (1, .int x1), (2, .int x2), (3, .int x3)] → zz_Z E p l e (zz_rm 3) s m args below meth c (zz_Q (zz_pi E) E below args s) (k22 a0 x1 x2 x3 M) M (F0 m 22 ls [])) : ∀ (a0 : Nat) (x1 : Int32) (x2 : Int32) (x3 : Int32) (ha0 : zz_sh a0 = 8) (M : zz_M) (ls : Array Slot), lv_has ls 4 [(0, .ref (E.1 + a0)), (1, .int x1), (2, .int x2), (3, .int x3)] → zz_Z E p l e (zz_rm 3) s m args below meth c (zz_Q (zz_pi E) E below args s) (b_X8_enough_55 k22 a0 x1 x2 x3 M) M (F0 m 55 ls []) := by
  intro a0 x1 x2 x3 ha0 M ls hl
  unfold b_X8_enough_55
  refine zz_iinc (k9 := 3) (d := 1) C (fun x3_12 => [(3, .int x3_12), (0, .ref (E.1 + a0)), (1, .int x1), (2, .int x2)]) dX8_enough_55 hl rfl (by decide) (by decide) (fun _ => rfl) (fun x3_12 ls hl => ?_)
  refine zz_goto (tgt := 22) C dX8_enough_58 (by decide) ?_
  exact hk22 a0 x1 x2 x3_12 ha0 M ls (lv_sub hl [1, 2, 3, 0] rfl)
def b_X8_enough_22 : Nat → Nat → Int32 → Int32 → Int32 → zz_M → Option (Int32 × zz_M)
  | 0 => fun _ _ _ _ _ => none
  | n + 1 => fun a0 x1 x2 x3 M => (if (zz_i M 1 2) ≤ x3 then some (x2, M) else (if zz_in x3 10 = true then zz_bd (f_X0_minutes ((1 + 7) + 1 + 2 * zz_n x3) M) (fun r_8 M_9 => (if r_8 < x1 then b_X8_enough_55 (b_X8_enough_22 n) a0 x1 x2 x3 M_9 else zz_w (x2 ||| ((1 : Int32) <<< (x3 &&& (31 : Int32)))) (fun x2_11 => b_X8_enough_55 (b_X8_enough_22 n) a0 x1 x2_11 x3 M_9))) else none))
set_option maxRecDepth 100000 in
set_option maxHeartbeats 4000000 in
theorem wb_X8_enough_22 {p : Program} {l : Launch} {e : Env} {s : State} {m : MethodId} {args : Array Value} {below : List Frame} {meth : Method} {c : Code} {E : zz_E} (C : zz_C E RX8 cX8_enough 4 wsX8_enough p s m args meth c) (hr : meth.sig.returnType = (some .int)) : ∀ (n : Nat) (a0 : Nat) (x1 : Int32) (x2 : Int32) (x3 : Int32) (ha0 : zz_sh a0 = 8) (M : zz_M) (ls : Array Slot), lv_has ls 4 [(0, .ref (E.1 + a0)), (1, .int x1), (2, .int x2), (3, .int x3)] → zz_Z E p l e (zz_rm 3) s m args below meth c (zz_Q (zz_pi E) E below args s) (b_X8_enough_22 n a0 x1 x2 x3 M) M (F0 m 22 ls []) := by
  intro n
  induction n with
  | zero => intro a0 x1 x2 x3 ha0 M ls hl; exact zz_none
  | succ n ih =>
    intro a0 x1 x2 x3 ha0 M ls hl
    rw [b_X8_enough_22]
    refine zz_iload_n C dX8_enough_22 rfl (lv_at hl 3 rfl) ?_
    refine zz_aload_n C dX8_enough_23 rfl (lv_at hl 0 rfl) ?_
    refine zz_get C (zz_lt ha0 (by decide)) (zz_c8 ha0) rfl in_X8_enough_X8 0 (by decide) (List.mem_of_getElem? (i := 2) rfl) rfl dX8_enough_24 ?_
    refine zz_get C (zz_lt (zz_s8_0 ha0) (by decide)) (zz_c1 (zz_s8_0 ha0)) rfl in_X8_enough_X1 2 (by decide) (List.mem_of_getElem? (i := 3) rfl) rfl dX8_enough_27 ?_
    refine zz_icmp_ge (tgt := 61) C dX8_enough_30 (by decide) (fun c_6 => ?_) (fun c_6 => ?_)
    · refine zz_iload_n C dX8_enough_61 rfl (lv_at hl 2 rfl) ?_
      exact zz_iret C hr dX8_enough_62
    · refine zz_aload_n C dX8_enough_33 rfl (lv_at hl 0 rfl) ?_
      refine zz_get C (zz_lt ha0 (by decide)) (zz_c8 ha0) rfl in_X8_enough_X8 0 (by decide) (List.mem_of_getElem? (i := 2) rfl) rfl dX8_enough_34 ?_
      refine zz_get C (zz_lt (zz_s8_0 ha0) (by decide)) (zz_c1 (zz_s8_0 ha0)) rfl in_X8_enough_X1 1 (by decide) (List.mem_of_getElem? (i := 4) rfl) rfl dX8_enough_37 ?_
      refine zz_iload_n C dX8_enough_40 rfl (lv_at hl 3 rfl) ?_
      refine zz_aald (t := 2) (g := fun i => (1 + 7) + 1 + 2 * i) C (zz_lt (zz_s1_1 (zz_s8_0 ha0)) (by decide)) (zz_c18 (zz_s1_1 (zz_s8_0 ha0))) rfl dX8_enough_41 (fun b_7 => ?_)
      refine zz_callVi (As := []) (rest := []) C (m_X0_minutes l E ((1 + 7) + 1 + 2 * zz_n x3) (zz_e18 (zz_s1_1 (zz_s8_0 ha0)) b_7) M) (cwV 0 C.1.2.2.2.2 gX8_enough_X0_minutes rfl rfl rfl hdV_X0_minutes ⟨Nat.le_of_ble_eq_true rfl, Nat.le_of_ble_eq_true rfl⟩) (zz_lt (zz_e18 (zz_s1_1 (zz_s8_0 ha0)) b_7) (by decide)) (zz_c0 (zz_e18 (zz_s1_1 (zz_s8_0 ha0)) b_7)) rfl rfl hl.1 rfl (Nat.le_of_ble_eq_true rfl) dX8_enough_42 (fun r_8 M_9 => ?_)
      refine zz_iload_n C dX8_enough_45 rfl (lv_at hl 1 rfl) ?_
      refine zz_icmp_lt (tgt := 55) C dX8_enough_46 (by decide) (fun c_10 => ?_) (fun c_10 => ?_)
      · exact wb_X8_enough_55 C hr ih a0 x1 x2 x3 ha0 M_9 ls (lv_sub hl [0, 1, 2, 3] rfl)
      · refine zz_iload_n C dX8_enough_49 rfl (lv_at hl 2 rfl) ?_
        refine zz_iconst (v := 1) C dX8_enough_50 (by decide) ?_
        refine zz_iload_n C dX8_enough_51 rfl (lv_at hl 3 rfl) ?_
        refine zz_ishl C dX8_enough_52 ?_
        refine zz_ior C dX8_enough_53 ?_
        refine zz_istore_n C (fun x2_11 => [(2, .int x2_11), (0, .ref (E.1 + a0)), (1, .int x1), (3, .int x3)]) dX8_enough_54 rfl hl (by decide) (fun _ => rfl) (fun x2_11 ls hl => ?_)
        exact wb_X8_enough_55 C hr ih a0 x1 x2_11 x3 ha0 M_9 ls (lv_sub hl [1, 2, 0, 3] rfl)
def f_X8_enough (a0 : Nat) (x1 : Int32) (M : zz_M) : Option (Int32 × zz_M) := zz_bd (f_X8_within x1 (0 : Int32) (9999 : Int32) M) (fun r_1 M_2 => (if r_1 = 0 then zz_bd (f_X8_finding a0 (-1000000001 : Int32) M_2) (fun r_4 M_5 => some (r_4, M_5)) else b_X8_enough_22  zz_fuel a0 x1 (0 : Int32) (0 : Int32) M_2))
set_option maxRecDepth 100000 in
set_option maxHeartbeats 4000000 in
theorem m_X8_enough (l : Launch) (E : zz_E) (a0 : Nat) (x1 : Int32) (h0 : zz_sh a0 = 8) (M : zz_M) : zz_Met (zz_pi E) l yX8_enough wsX8_enough 3 E [.ref (E.1 + a0), .int x1] M (f_X8_enough a0 x1 M) := by
  refine zz_met (cc := cX8_enough) (nL := 4) (ret := (some .int)) (by decide) rfl (Nat.le_of_ble_eq_true rfl) ?_
  intro p e s m below meth c C hr ls hl
  have C : zz_C E RX8 cX8_enough 4 wsX8_enough p s m [.ref (E.1 + a0), .int x1].toArray meth c := C
  have hl : lv_has ls 4 [(0, .ref (E.1 + a0)), (1, .int x1)] := hl
  unfold f_X8_enough
  refine zz_iload_n C dX8_enough_0 rfl (lv_at hl 1 rfl) ?_
  refine zz_iconst (v := 0) C dX8_enough_1 (by decide) ?_
  refine zz_sipush (v := 9999) C dX8_enough_2 (by decide) ?_
  refine zz_callSi (As := [.int x1, .int (0 : Int32), .int (9999 : Int32)]) (rest := []) C (m_X8_within l E x1 (0 : Int32) (9999 : Int32)  M) (va_cwS 3 C.1.2.2.2.2 gX8_enough_X8_within rfl rfl rfl hdS_X8_within ⟨Nat.le_of_ble_eq_true rfl, Nat.le_of_ble_eq_true rfl⟩) rfl hl.1 rfl (Nat.le_of_ble_eq_true rfl) dX8_enough_5 (fun r_1 M_2 => ?_)
  refine zz_if_ne (tgt := 18) C dX8_enough_8 (by decide) (fun c_3 => ?_) (fun c_3 => ?_)
  · refine zz_aload_n C dX8_enough_11 rfl (lv_at hl 0 rfl) ?_
    refine zz_ldc (v := -1000000001) C (List.mem_of_getElem? (i := 1) rfl) dX8_enough_12 ?_
    refine zz_callVi (As := [.int (-1000000001 : Int32)]) (rest := []) C (m_X8_finding l E a0 (-1000000001 : Int32) h0 M_2) (cwV 1 C.1.2.2.2.2 gX8_enough_X8_finding rfl rfl rfl hdV_X8_finding ⟨Nat.le_of_ble_eq_true rfl, Nat.le_of_ble_eq_true rfl⟩) (zz_lt h0 (by decide)) (zz_c8 h0) rfl rfl hl.1 rfl (Nat.le_of_ble_eq_true rfl) dX8_enough_14 (fun r_4 M_5 => ?_)
    exact zz_iret C hr dX8_enough_17
  · refine zz_iconst (v := 0) C dX8_enough_18 (by decide) ?_
    refine zz_istored_n (lv' := [(2, .int (0 : Int32)), (0, .ref (E.1 + a0)), (1, .int x1)]) C dX8_enough_19 rfl hl (by decide) rfl (fun ls hl => ?_)
    refine zz_iconst (v := 0) C dX8_enough_20 (by decide) ?_
    refine zz_istored_n (lv' := [(3, .int (0 : Int32)), (2, .int (0 : Int32)), (0, .ref (E.1 + a0)), (1, .int x1)]) C dX8_enough_21 rfl hl (by decide) rfl (fun ls hl => ?_)
    exact wb_X8_enough_22 C hr  zz_fuel a0 x1 (0 : Int32) (0 : Int32) h0 M_2 ls (lv_sub hl [2, 3, 1, 0] rfl)
-- X8_feed ('X8', 'feed', '(II)I')
theorem in_X8_feed_X4 : ∀ w ∈ u_ws RX4 TX4 2, w ∈ wsX8_feed := fun _ h => List.mem_cons_of_mem _ (List.mem_append_right _ h)
theorem in_X8_feed_X8 : ∀ w ∈ u_ws RX8 TX8 11, w ∈ wsX8_feed := fun _ h => List.mem_cons_of_mem _ (List.mem_append_left _ (List.mem_append_right _ h))
theorem hdV_X4_append : yX4_append.cls = RX4 ∧ yX4_append.cls ≠ "java/lang/invoke/MethodHandle" ∧ yX4_append.cls ≠ "java/lang/invoke/VarHandle" ∧ (parseMethodDescriptor yX4_append.desc).map (fun d => d.parameters.length) = some 1 := by decide +kernel
def b_X8_feed_41 : Nat → Nat → Int32 → Int32 → zz_M → Option (Int32 × zz_M)
  | 0 => fun _ _ _ _ => none
  | n + 1 => fun a0 x1 x3 M => (if x3 < 0 then some ((zz_i M 88 1), M) else zz_bd (f_X4_append 88 ((x1 >>> (((8 : Int32) * x3) &&& (31 : Int32))) &&& (255 : Int32)) M) (fun _ M_11 => zz_w (x3 + (-1 : Int32)) (fun x3_12 => (b_X8_feed_41 n) a0 x1 x3_12 M_11)))
set_option maxRecDepth 100000 in
set_option maxHeartbeats 4000000 in
theorem wb_X8_feed_41 {p : Program} {l : Launch} {e : Env} {s : State} {m : MethodId} {args : Array Value} {below : List Frame} {meth : Method} {c : Code} {E : zz_E} (C : zz_C E RX8 cX8_feed 4 wsX8_feed p s m args meth c) (hr : meth.sig.returnType = (some .int)) : ∀ (n : Nat) (a0 : Nat) (x1 : Int32) (x3 : Int32) (ha0 : zz_sh a0 = 8) (M : zz_M) (ls : Array Slot), lv_has ls 4 [(0, .ref (E.1 + a0)), (1, .int x1), (3, .int x3)] → zz_Z E p l e (zz_rm 3) s m args below meth c (zz_Q (zz_pi E) E below args s) (b_X8_feed_41 n a0 x1 x3 M) M (F0 m 41 ls []) := by
  intro n
  induction n with
  | zero => intro a0 x1 x3 ha0 M ls hl; exact zz_none
  | succ n ih =>
    intro a0 x1 x3 ha0 M ls hl
    rw [b_X8_feed_41]
    refine zz_iload_n C dX8_feed_41 rfl (lv_at hl 2 rfl) ?_
    refine zz_if_lt (tgt := 68) C dX8_feed_42 (by decide) (fun c_10 => ?_) (fun c_10 => ?_)
    · refine zz_aload_n C dX8_feed_68 rfl (lv_at hl 0 rfl) ?_
      refine zz_get C (zz_lt ha0 (by decide)) (zz_c8 ha0) rfl in_X8_feed_X8 7 (by decide) (List.mem_of_getElem? (i := 2) rfl) rfl dX8_feed_69 ?_
      refine zz_get C (zz_lt (zz_s8_7 ha0) (by decide)) (zz_c4 (zz_s8_7 ha0)) rfl in_X8_feed_X4 1 (by decide) (List.mem_of_getElem? (i := 3) rfl) rfl dX8_feed_72 ?_
      exact zz_iret C hr dX8_feed_75
    · refine zz_aload_n C dX8_feed_45 rfl (lv_at hl 0 rfl) ?_
      refine zz_get C (zz_lt ha0 (by decide)) (zz_c8 ha0) rfl in_X8_feed_X8 7 (by decide) (List.mem_of_getElem? (i := 2) rfl) rfl dX8_feed_46 ?_
      refine zz_iload_n C dX8_feed_49 rfl (lv_at hl 1 rfl) ?_
      refine zz_bipush (v := 8) C dX8_feed_50 (by decide) ?_
      refine zz_iload_n C dX8_feed_52 rfl (lv_at hl 2 rfl) ?_
      refine zz_imul C dX8_feed_53 ?_
      refine zz_ishr C dX8_feed_54 ?_
      refine zz_sipush (v := 255) C dX8_feed_55 (by decide) ?_
      refine zz_iand C dX8_feed_58 ?_
      refine zz_callVv (As := [.int ((x1 >>> (((8 : Int32) * x3) &&& (31 : Int32))) &&& (255 : Int32))]) (rest := []) C (m_X4_append l E 88 ((x1 >>> (((8 : Int32) * x3) &&& (31 : Int32))) &&& (255 : Int32)) (zz_s8_7 ha0) M) (cwV 1 C.1.2.2.2.2 gX8_feed_X4_append rfl rfl rfl hdV_X4_append ⟨Nat.le_of_ble_eq_true rfl, Nat.le_of_ble_eq_true rfl⟩) (zz_lt (zz_s8_7 ha0) (by decide)) (zz_c4 (zz_s8_7 ha0)) rfl rfl hl.1 rfl (Nat.le_of_ble_eq_true rfl) dX8_feed_59 (fun _ M_11 => ?_)
      refine zz_iinc (k9 := 2) (d := -1) C (fun x3_12 => [(3, .int x3_12), (0, .ref (E.1 + a0)), (1, .int x1)]) dX8_feed_62 hl rfl (by decide) (by decide) (fun _ => rfl) (fun x3_12 ls hl => ?_)
      refine zz_goto (tgt := 41) C dX8_feed_65 (by decide) ?_
      exact ih a0 x1 x3_12 ha0 M_11 ls (lv_sub hl [1, 2, 0] rfl)
def f_X8_feed (a0 : Nat) (x1 : Int32) (x2 : Int32) (M : zz_M) : Option (Int32 × zz_M) := zz_bd (f_X8_within x2 (1 : Int32) (4 : Int32) M) (fun r_1 M_2 => (if r_1 = 0 then zz_bd (f_X8_finding a0 (-1000000001 : Int32) M_2) (fun r_8 M_9 => some (r_8, M_9)) else (if ((zz_i M_2 88 1) + x2) ≤ (120 : Int32) then zz_w (x2 - (1 : Int32)) (fun x3_5 => b_X8_feed_41  zz_fuel a0 x1 x3_5 M_2) else zz_bd (f_X8_finding a0 (-1000000002 : Int32) M_2) (fun r_6 M_7 => some (r_6, M_7)))))
set_option maxRecDepth 100000 in
set_option maxHeartbeats 4000000 in
theorem m_X8_feed (l : Launch) (E : zz_E) (a0 : Nat) (x1 : Int32) (x2 : Int32) (h0 : zz_sh a0 = 8) (M : zz_M) : zz_Met (zz_pi E) l yX8_feed wsX8_feed 3 E [.ref (E.1 + a0), .int x1, .int x2] M (f_X8_feed a0 x1 x2 M) := by
  refine zz_met (cc := cX8_feed) (nL := 4) (ret := (some .int)) (by decide) rfl (Nat.le_of_ble_eq_true rfl) ?_
  intro p e s m below meth c C hr ls hl
  have C : zz_C E RX8 cX8_feed 4 wsX8_feed p s m [.ref (E.1 + a0), .int x1, .int x2].toArray meth c := C
  have hl : lv_has ls 4 [(0, .ref (E.1 + a0)), (1, .int x1), (2, .int x2)] := hl
  unfold f_X8_feed
  refine zz_iload_n C dX8_feed_0 rfl (lv_at hl 2 rfl) ?_
  refine zz_iconst (v := 1) C dX8_feed_1 (by decide) ?_
  refine zz_iconst (v := 4) C dX8_feed_2 (by decide) ?_
  refine zz_callSi (As := [.int x2, .int (1 : Int32), .int (4 : Int32)]) (rest := []) C (m_X8_within l E x2 (1 : Int32) (4 : Int32)  M) (va_cwS 3 C.1.2.2.2.2 gX8_feed_X8_within rfl rfl rfl hdS_X8_within ⟨Nat.le_of_ble_eq_true rfl, Nat.le_of_ble_eq_true rfl⟩) rfl hl.1 rfl (Nat.le_of_ble_eq_true rfl) dX8_feed_3 (fun r_1 M_2 => ?_)
  refine zz_if_ne (tgt := 16) C dX8_feed_6 (by decide) (fun c_3 => ?_) (fun c_3 => ?_)
  · refine zz_aload_n C dX8_feed_9 rfl (lv_at hl 0 rfl) ?_
    refine zz_ldc (v := -1000000001) C (List.mem_of_getElem? (i := 1) rfl) dX8_feed_10 ?_
    refine zz_callVi (As := [.int (-1000000001 : Int32)]) (rest := []) C (m_X8_finding l E a0 (-1000000001 : Int32) h0 M_2) (cwV 1 C.1.2.2.2.2 gX8_feed_X8_finding rfl rfl rfl hdV_X8_finding ⟨Nat.le_of_ble_eq_true rfl, Nat.le_of_ble_eq_true rfl⟩) (zz_lt h0 (by decide)) (zz_c8 h0) rfl rfl hl.1 rfl (Nat.le_of_ble_eq_true rfl) dX8_feed_12 (fun r_8 M_9 => ?_)
    exact zz_iret C hr dX8_feed_15
  · refine zz_aload_n C dX8_feed_16 rfl (lv_at hl 0 rfl) ?_
    refine zz_get C (zz_lt h0 (by decide)) (zz_c8 h0) rfl in_X8_feed_X8 7 (by decide) (List.mem_of_getElem? (i := 2) rfl) rfl dX8_feed_17 ?_
    refine zz_get C (zz_lt (zz_s8_7 h0) (by decide)) (zz_c4 (zz_s8_7 h0)) rfl in_X8_feed_X4 1 (by decide) (List.mem_of_getElem? (i := 3) rfl) rfl dX8_feed_20 ?_
    refine zz_iload_n C dX8_feed_23 rfl (lv_at hl 2 rfl) ?_
    refine zz_iadd C dX8_feed_24 ?_
    refine zz_bipush (v := 120) C dX8_feed_25 (by decide) ?_
    refine zz_icmp_le (tgt := 37) C dX8_feed_27 (by decide) (fun c_4 => ?_) (fun c_4 => ?_)
    · refine zz_iload_n C dX8_feed_37 rfl (lv_at hl 2 rfl) ?_
      refine zz_iconst (v := 1) C dX8_feed_38 (by decide) ?_
      refine zz_isub C dX8_feed_39 ?_
      refine zz_istore_n C (fun x3_5 => [(3, .int x3_5), (0, .ref (E.1 + a0)), (1, .int x1), (2, .int x2)]) dX8_feed_40 rfl hl (by decide) (fun _ => rfl) (fun x3_5 ls hl => ?_)
      exact wb_X8_feed_41 C hr  zz_fuel a0 x1 x3_5 h0 M_2 ls (lv_sub hl [1, 2, 0] rfl)
    · refine zz_aload_n C dX8_feed_30 rfl (lv_at hl 0 rfl) ?_
      refine zz_ldc (v := -1000000002) C (List.mem_of_getElem? (i := 4) rfl) dX8_feed_31 ?_
      refine zz_callVi (As := [.int (-1000000002 : Int32)]) (rest := []) C (m_X8_finding l E a0 (-1000000002 : Int32) h0 M_2) (cwV 1 C.1.2.2.2.2 gX8_feed_X8_finding rfl rfl rfl hdV_X8_finding ⟨Nat.le_of_ble_eq_true rfl, Nat.le_of_ble_eq_true rfl⟩) (zz_lt h0 (by decide)) (zz_c8 h0) rfl rfl hl.1 rfl (Nat.le_of_ble_eq_true rfl) dX8_feed_33 (fun r_6 M_7 => ?_)
      exact zz_iret C hr dX8_feed_36
-- X8_wipe ('X8', 'wipe', '()I')
theorem in_X8_wipe_X4 : ∀ w ∈ u_ws RX4 TX4 2, w ∈ wsX8_wipe := fun _ h => List.mem_cons_of_mem _ (List.mem_append_right _ h)
theorem in_X8_wipe_X8 : ∀ w ∈ u_ws RX8 TX8 11, w ∈ wsX8_wipe := fun _ h => List.mem_cons_of_mem _ (List.mem_append_left _ (List.mem_append_right _ h))
def f_X8_wipe (a0 : Nat) (M : zz_M) : Option (Int32 × zz_M) := zz_w (zz_i M 88 1) (fun x1_1 => zz_w (zz_si M 88 1 (0 : Int32)) (fun M_2 => some (x1_1, M_2)))
set_option maxRecDepth 100000 in
set_option maxHeartbeats 4000000 in
theorem m_X8_wipe (l : Launch) (E : zz_E) (a0 : Nat) (h0 : zz_sh a0 = 8) (M : zz_M) : zz_Met (zz_pi E) l yX8_wipe wsX8_wipe 1 E [.ref (E.1 + a0)] M (f_X8_wipe a0 M) := by
  refine zz_met (cc := cX8_wipe) (nL := 2) (ret := (some .int)) (by decide) rfl (Nat.le_of_ble_eq_true rfl) ?_
  intro p e s m below meth c C hr ls hl
  have C : zz_C E RX8 cX8_wipe 2 wsX8_wipe p s m [.ref (E.1 + a0)].toArray meth c := C
  have hl : lv_has ls 2 [(0, .ref (E.1 + a0))] := hl
  unfold f_X8_wipe
  refine zz_aload_n C dX8_wipe_0 rfl (lv_at hl 0 rfl) ?_
  refine zz_get C (zz_lt h0 (by decide)) (zz_c8 h0) rfl in_X8_wipe_X8 7 (by decide) (List.mem_of_getElem? (i := 1) rfl) rfl dX8_wipe_1 ?_
  refine zz_get C (zz_lt (zz_s8_7 h0) (by decide)) (zz_c4 (zz_s8_7 h0)) rfl in_X8_wipe_X4 1 (by decide) (List.mem_of_getElem? (i := 2) rfl) rfl dX8_wipe_4 ?_
  refine zz_istore_n C (fun x1_1 => [(1, .int x1_1), (0, .ref (E.1 + a0))]) dX8_wipe_7 rfl hl (by decide) (fun _ => rfl) (fun x1_1 ls hl => ?_)
  refine zz_aload_n C dX8_wipe_8 rfl (lv_at hl 1 rfl) ?_
  refine zz_get C (zz_lt h0 (by decide)) (zz_c8 h0) rfl in_X8_wipe_X8 7 (by decide) (List.mem_of_getElem? (i := 1) rfl) rfl dX8_wipe_9 ?_
  refine zz_iconst (v := 0) C dX8_wipe_12 (by decide) ?_
  refine zz_put (M1 := zz_si M 88 1 (0 : Int32)) C (zz_lt (zz_s8_7 h0) (by decide)) (zz_c4 (zz_s8_7 h0)) rfl in_X8_wipe_X4 tyX4 tyX4_ok nmX4 1 (by decide) (List.mem_of_getElem? (i := 2) rfl) rfl rfl rfl (Nat.le_of_ble_eq_true rfl) (zz_p4_1 (zz_s8_7 h0)) zz_cell_si dX8_wipe_13 (fun M_2 => ?_)
  refine zz_iload_n C dX8_wipe_16 rfl (lv_at hl 0 rfl) ?_
  exact zz_iret C hr dX8_wipe_17
