-- X9_isSheet ('X9', 'isSheet', '(I)Z')
def f_X9_isSheet (x0 : Int32) (M : zz_M) : Option (Int32 × zz_M) := zz_bd (f_X9_in x0 (0 : Int32) (3 : Int32) M) (fun r_1 M_2 => (if zz_bit r_1 = true then some (r_1, M_2) else none))
set_option maxRecDepth 100000 in
set_option maxHeartbeats 4000000 in
theorem m_X9_isSheet (l : Launch) (E : zz_E) (x0 : Int32)  (M : zz_M) : zz_Met (zz_pi E) l yX9_isSheet wsX9_isSheet 2 E [.int x0] M (f_X9_isSheet x0 M) := by
  refine zz_met (cc := cX9_isSheet) (nL := 1) (ret := (some .boolean)) (by decide) rfl (Nat.le_of_ble_eq_true rfl) ?_
  intro p e s m below meth c C hr ls hl
  have C : zz_C E RX9 cX9_isSheet 1 wsX9_isSheet p s m [.int x0].toArray meth c := C
  have hl : lv_has ls 1 [(0, .int x0)] := hl
  unfold f_X9_isSheet
  refine zz_iload_n C dX9_isSheet_0 rfl (lv_at hl 0 rfl) ?_
  refine zz_iconst (v := 0) C dX9_isSheet_1 (by decide) ?_
  refine zz_iconst (v := 3) C dX9_isSheet_2 (by decide) ?_
  refine zz_callSi (As := [.int x0, .int (0 : Int32), .int (3 : Int32)]) (rest := []) C (m_X9_in l E x0 (0 : Int32) (3 : Int32)  M) (va_cwS 3 C.1.2.2.2.2 gX9_isSheet_X9_in rfl rfl rfl hdS_X9_in ⟨Nat.le_of_ble_eq_true rfl, Nat.le_of_ble_eq_true rfl⟩) rfl hl.1 rfl (Nat.le_of_ble_eq_true rfl) dX9_isSheet_3 (fun r_1 M_2 => ?_)
  exact zz_zret C hr dX9_isSheet_6
-- X9_narrow ('X9', 'narrow', '(IJ)J')
def f_X9_narrow (x0 : Int32) (y1 : Int64) (M : zz_M) : Option (Int64 × zz_M) := (if x0 = (8 : Int32) then some (((y1 <<< ((56 : Int32).toInt64 &&& (63 : Int64))) >>> ((56 : Int32).toInt64 &&& (63 : Int64))), M) else (if x0 = (16 : Int32) then some (((y1 <<< ((48 : Int32).toInt64 &&& (63 : Int64))) >>> ((48 : Int32).toInt64 &&& (63 : Int64))), M) else some (y1, M)))
set_option maxRecDepth 100000 in
set_option maxHeartbeats 4000000 in
theorem m_X9_narrow (l : Launch) (E : zz_E) (x0 : Int32) (y1 : Int64)  (M : zz_M) : zz_Met (zz_pl E) l yX9_narrow wsX9_narrow 1 E [.int x0, .long y1] M (f_X9_narrow x0 y1 M) := by
  refine zz_met (cc := cX9_narrow) (nL := 3) (ret := (some .long)) (by decide) rfl (Nat.le_of_ble_eq_true rfl) ?_
  intro p e s m below meth c C hr ls hl
  have C : zz_C E RX9 cX9_narrow 3 wsX9_narrow p s m [.int x0, .long y1].toArray meth c := C
  have hl : lv_has ls 3 [(0, .int x0), (1, .long y1)] := hl
  unfold f_X9_narrow
  refine zz_iload_n C dX9_narrow_0 rfl (lv_at hl 0 rfl) ?_
  refine zz_bipush (v := 8) C dX9_narrow_1 (by decide) ?_
  refine zz_icmp_ne (tgt := 16) C dX9_narrow_3 (by decide) (fun c_1 => ?_) (fun c_1 => ?_)
  · refine zz_lload_n C dX9_narrow_6 rfl (lv_at hl 1 rfl) ?_
    refine zz_bipush (v := 56) C dX9_narrow_7 (by decide) ?_
    refine zz_lshl C dX9_narrow_9 ?_
    refine zz_bipush (v := 56) C dX9_narrow_10 (by decide) ?_
    refine zz_lshr C dX9_narrow_12 ?_
    refine zz_goto (tgt := 33) C dX9_narrow_13 (by decide) ?_
    exact zz_lret C hr dX9_narrow_33
  · refine zz_iload_n C dX9_narrow_16 rfl (lv_at hl 0 rfl) ?_
    refine zz_bipush (v := 16) C dX9_narrow_17 (by decide) ?_
    refine zz_icmp_ne (tgt := 32) C dX9_narrow_19 (by decide) (fun c_2 => ?_) (fun c_2 => ?_)
    · refine zz_lload_n C dX9_narrow_22 rfl (lv_at hl 1 rfl) ?_
      refine zz_bipush (v := 48) C dX9_narrow_23 (by decide) ?_
      refine zz_lshl C dX9_narrow_25 ?_
      refine zz_bipush (v := 48) C dX9_narrow_26 (by decide) ?_
      refine zz_lshr C dX9_narrow_28 ?_
      refine zz_goto (tgt := 33) C dX9_narrow_29 (by decide) ?_
      exact zz_lret C hr dX9_narrow_33
    · refine zz_lload_n C dX9_narrow_32 rfl (lv_at hl 1 rfl) ?_
      exact zz_lret C hr dX9_narrow_33
-- X9_sheet ('X9', 'sheet', '(III)I')
theorem in_X9_sheet_X9 : ∀ w ∈ u_ws RX9 TX9 20, w ∈ wsX9_sheet := fun _ h => List.mem_cons_of_mem _ (List.mem_append_right _ h)
theorem hdS_X9_isSheet : yX9_isSheet.cls ≠ "java/lang/invoke/MethodHandle" ∧ yX9_isSheet.cls ≠ "java/lang/invoke/VarHandle" ∧ (parseMethodDescriptor yX9_isSheet.desc).map (fun d => d.parameters.length) = some 1 := by decide +kernel
def b_X9_sheet_86 : Nat → Nat → Int32 → Int32 → zz_M → Option (Int32 × zz_M)
  | 0 => fun _ _ _ _ => none
  | n + 1 => fun a0 x1 x4 M => (if (40 : Int32) ≤ x4 then (if zz_in x1 4 = true then some ((zz_i M 136 (zz_n x1)), M) else none) else (if zz_in (((40 : Int32) * x1) + x4) 160 = true then zz_w (zz_sj M 137 (zz_n (((40 : Int32) * x1) + x4)) (0 : Int64)) (fun M_22 => zz_w (x4 + (1 : Int32)) (fun x4_23 => (b_X9_sheet_86 n) a0 x1 x4_23 M_22)) else none))
set_option maxRecDepth 100000 in
set_option maxHeartbeats 4000000 in
theorem wb_X9_sheet_86 {p : Program} {l : Launch} {e : Env} {s : State} {m : MethodId} {args : Array Value} {below : List Frame} {meth : Method} {c : Code} {E : zz_E} (C : zz_C E RX9 cX9_sheet 5 wsX9_sheet p s m args meth c) (hr : meth.sig.returnType = (some .int)) : ∀ (n : Nat) (a0 : Nat) (x1 : Int32) (x4 : Int32) (ha0 : zz_sh a0 = 9) (M : zz_M) (ls : Array Slot), lv_has ls 5 [(0, .ref (E.1 + a0)), (1, .int x1), (4, .int x4)] → zz_Z E p l e (zz_rm 3) s m args below meth c (zz_Q (zz_pi E) E below args s) (b_X9_sheet_86 n a0 x1 x4 M) M (F0 m 86 ls []) := by
  intro n
  induction n with
  | zero => intro a0 x1 x4 ha0 M ls hl; exact zz_none
  | succ n ih =>
    intro a0 x1 x4 ha0 M ls hl
    rw [b_X9_sheet_86]
    refine zz_iload C dX9_sheet_86 (lv_at hl 2 rfl) ?_
    refine zz_bipush (v := 40) C dX9_sheet_88 (by decide) ?_
    refine zz_icmp_ge (tgt := 112) C dX9_sheet_90 (by decide) (fun c_21 => ?_) (fun c_21 => ?_)
    · refine zz_aload_n C dX9_sheet_112 rfl (lv_at hl 0 rfl) ?_
      refine zz_get C (zz_lt ha0 (by decide)) (zz_c9 ha0) rfl in_X9_sheet_X9 14 (by decide) (List.mem_of_getElem? (i := 4) rfl) rfl dX9_sheet_113 ?_
      refine zz_iload_n C dX9_sheet_116 rfl (lv_at hl 1 rfl) ?_
      refine zz_iald C (zz_lt (zz_s9_14 ha0) (by decide)) (zz_c15 (zz_s9_14 ha0)) dX9_sheet_117 ?_
      exact zz_iret C hr dX9_sheet_118
    · refine zz_aload_n C dX9_sheet_93 rfl (lv_at hl 0 rfl) ?_
      refine zz_get C (zz_lt ha0 (by decide)) (zz_c9 ha0) rfl in_X9_sheet_X9 15 (by decide) (List.mem_of_getElem? (i := 5) rfl) rfl dX9_sheet_94 ?_
      refine zz_bipush (v := 40) C dX9_sheet_97 (by decide) ?_
      refine zz_iload_n C dX9_sheet_99 rfl (lv_at hl 1 rfl) ?_
      refine zz_imul C dX9_sheet_100 ?_
      refine zz_iload C dX9_sheet_101 (lv_at hl 2 rfl) ?_
      refine zz_iadd C dX9_sheet_103 ?_
      refine zz_lconst (v := 0) C dX9_sheet_104 rfl ?_
      refine zz_last C (zz_lt (zz_s9_15 ha0) (by decide)) (fun _ => zz_c17 (zz_s9_15 ha0)) dX9_sheet_105 (fun M_22 => ?_)
      refine zz_iinc (k9 := 2) (d := 1) C (fun x4_23 => [(4, .int x4_23), (0, .ref (E.1 + a0)), (1, .int x1)]) dX9_sheet_106 hl rfl (by decide) (by decide) (fun _ => rfl) (fun x4_23 ls hl => ?_)
      refine zz_goto (tgt := 86) C dX9_sheet_109 (by decide) ?_
      exact ih a0 x1 x4_23 ha0 M_22 ls (lv_sub hl [1, 2, 0] rfl)
def b_X9_sheet_82 (a0 : Nat) (x1 : Int32) (st0 : Int32) (st1 : Int32) (rt2 : Nat) (M : zz_M) : Option (Int32 × zz_M) := (if zz_in st1 4 = true then zz_w (zz_si M rt2 (zz_n st1) st0) (fun M_20 => b_X9_sheet_86  zz_fuel a0 x1 (0 : Int32) M_20) else none)
set_option maxRecDepth 100000 in
set_option maxHeartbeats 4000000 in
theorem wb_X9_sheet_82 {p : Program} {l : Launch} {e : Env} {s : State} {m : MethodId} {args : Array Value} {below : List Frame} {meth : Method} {c : Code} {E : zz_E} (C : zz_C E RX9 cX9_sheet 5 wsX9_sheet p s m args meth c) (hr : meth.sig.returnType = (some .int)) : ∀ (a0 : Nat) (x1 : Int32) (st0 : Int32) (st1 : Int32) (rt2 : Nat) (ha0 : zz_sh a0 = 9) (hrt2 : zz_sh rt2 = 15) (M : zz_M) (ls : Array Slot), lv_has ls 5 [(0, .ref (E.1 + a0)), (1, .int x1)] → zz_Z E p l e (zz_rm 3) s m args below meth c (zz_Q (zz_pi E) E below args s) (b_X9_sheet_82 a0 x1 st0 st1 rt2 M) M (F0 m 82 ls [.int st0, .int st1, .ref (E.1 + rt2)]) := by
  intro a0 x1 st0 st1 rt2 ha0 hrt2 M ls hl
  unfold b_X9_sheet_82
  refine zz_iast C (zz_lt hrt2 (by decide)) (fun _ => zz_c15 hrt2) dX9_sheet_82 (fun M_20 => ?_)
  refine zz_iconst (v := 0) C dX9_sheet_83 (by decide) ?_
  refine zz_istored (lv' := [(4, .int (0 : Int32)), (0, .ref (E.1 + a0)), (1, .int x1)]) C dX9_sheet_84 hl (by decide) rfl (fun ls hl => ?_)
  exact wb_X9_sheet_86 C hr  zz_fuel a0 x1 (0 : Int32) ha0 M_20 ls (lv_sub hl [1, 2, 0] rfl)
def b_X9_sheet_36 (a0 : Nat) (x1 : Int32) (x2 : Int32) (x3 : Int32) (M : zz_M) : Option (Int32 × zz_M) := (if 0 ≤ x3 then (if x3 ≤ (40 : Int32) then (if zz_in x1 4 = true then zz_w (zz_si M 135 (zz_n x1) x2) (fun M_14 => (if x2 = 0 then b_X9_sheet_82  a0 x1 (0 : Int32) x1 136 M_14 else b_X9_sheet_82  a0 x1 x3 x1 136 M_14)) else none) else zz_bd (f_X9_finds a0 (-1000000001 : Int32) M) (fun r_16 M_17 => some (r_16, M_17))) else zz_bd (f_X9_finds a0 (-1000000007 : Int32) M) (fun r_18 M_19 => some (r_18, M_19)))
set_option maxRecDepth 100000 in
set_option maxHeartbeats 4000000 in
theorem wb_X9_sheet_36 {p : Program} {l : Launch} {e : Env} {s : State} {m : MethodId} {args : Array Value} {below : List Frame} {meth : Method} {c : Code} {E : zz_E} (C : zz_C E RX9 cX9_sheet 5 wsX9_sheet p s m args meth c) (hr : meth.sig.returnType = (some .int)) : ∀ (a0 : Nat) (x1 : Int32) (x2 : Int32) (x3 : Int32) (ha0 : zz_sh a0 = 9) (M : zz_M) (ls : Array Slot), lv_has ls 5 [(0, .ref (E.1 + a0)), (1, .int x1), (2, .int x2), (3, .int x3)] → zz_Z E p l e (zz_rm 3) s m args below meth c (zz_Q (zz_pi E) E below args s) (b_X9_sheet_36 a0 x1 x2 x3 M) M (F0 m 36 ls []) := by
  intro a0 x1 x2 x3 ha0 M ls hl
  unfold b_X9_sheet_36
  refine zz_iload_n C dX9_sheet_36 rfl (lv_at hl 3 rfl) ?_
  refine zz_if_ge (tgt := 48) C dX9_sheet_37 (by decide) (fun c_12 => ?_) (fun c_12 => ?_)
  · refine zz_iload_n C dX9_sheet_48 rfl (lv_at hl 3 rfl) ?_
    refine zz_bipush (v := 40) C dX9_sheet_49 (by decide) ?_
    refine zz_icmp_le (tgt := 61) C dX9_sheet_51 (by decide) (fun c_13 => ?_) (fun c_13 => ?_)
    · refine zz_aload_n C dX9_sheet_61 rfl (lv_at hl 0 rfl) ?_
      refine zz_get C (zz_lt ha0 (by decide)) (zz_c9 ha0) rfl in_X9_sheet_X9 13 (by decide) (List.mem_of_getElem? (i := 3) rfl) rfl dX9_sheet_62 ?_
      refine zz_iload_n C dX9_sheet_65 rfl (lv_at hl 1 rfl) ?_
      refine zz_iload_n C dX9_sheet_66 rfl (lv_at hl 2 rfl) ?_
      refine zz_iast C (zz_lt (zz_s9_13 ha0) (by decide)) (fun _ => zz_c15 (zz_s9_13 ha0)) dX9_sheet_67 (fun M_14 => ?_)
      refine zz_aload_n C dX9_sheet_68 rfl (lv_at hl 0 rfl) ?_
      refine zz_get C (zz_lt ha0 (by decide)) (zz_c9 ha0) rfl in_X9_sheet_X9 14 (by decide) (List.mem_of_getElem? (i := 4) rfl) rfl dX9_sheet_69 ?_
      refine zz_iload_n C dX9_sheet_72 rfl (lv_at hl 1 rfl) ?_
      refine zz_iload_n C dX9_sheet_73 rfl (lv_at hl 2 rfl) ?_
      refine zz_if_ne (tgt := 81) C dX9_sheet_74 (by decide) (fun c_15 => ?_) (fun c_15 => ?_)
      · refine zz_iconst (v := 0) C dX9_sheet_77 (by decide) ?_
        refine zz_goto (tgt := 82) C dX9_sheet_78 (by decide) ?_
        exact wb_X9_sheet_82 C hr  a0 x1 (0 : Int32) x1 136 ha0 (zz_s9_14 ha0) M_14 ls (lv_sub hl [0, 1] rfl)
      · refine zz_iload_n C dX9_sheet_81 rfl (lv_at hl 3 rfl) ?_
        exact wb_X9_sheet_82 C hr  a0 x1 x3 x1 136 ha0 (zz_s9_14 ha0) M_14 ls (lv_sub hl [0, 1] rfl)
    · refine zz_aload_n C dX9_sheet_54 rfl (lv_at hl 0 rfl) ?_
      refine zz_ldc (v := -1000000001) C (List.mem_of_getElem? (i := 1) rfl) dX9_sheet_55 ?_
      refine zz_callVi (As := [.int (-1000000001 : Int32)]) (rest := []) C (m_X9_finds l E a0 (-1000000001 : Int32) ha0 M) (cwV 1 C.1.2.2.2.2 gX9_sheet_X9_finds rfl rfl rfl hdV_X9_finds ⟨Nat.le_of_ble_eq_true rfl, Nat.le_of_ble_eq_true rfl⟩) (zz_lt ha0 (by decide)) (zz_c9 ha0) rfl rfl hl.1 rfl (Nat.le_of_ble_eq_true rfl) dX9_sheet_57 (fun r_16 M_17 => ?_)
      exact zz_iret C hr dX9_sheet_60
  · refine zz_aload_n C dX9_sheet_40 rfl (lv_at hl 0 rfl) ?_
    refine zz_ldcw (v := -1000000007) C (List.mem_of_getElem? (i := 2) rfl) dX9_sheet_41 ?_
    refine zz_callVi (As := [.int (-1000000007 : Int32)]) (rest := []) C (m_X9_finds l E a0 (-1000000007 : Int32) ha0 M) (cwV 1 C.1.2.2.2.2 gX9_sheet_X9_finds rfl rfl rfl hdV_X9_finds ⟨Nat.le_of_ble_eq_true rfl, Nat.le_of_ble_eq_true rfl⟩) (zz_lt ha0 (by decide)) (zz_c9 ha0) rfl rfl hl.1 rfl (Nat.le_of_ble_eq_true rfl) dX9_sheet_44 (fun r_18 M_19 => ?_)
    exact zz_iret C hr dX9_sheet_47
def f_X9_sheet (a0 : Nat) (x1 : Int32) (x2 : Int32) (x3 : Int32) (M : zz_M) : Option (Int32 × zz_M) := zz_bd (f_X9_isSheet x1 M) (fun r_1 M_2 => (if r_1 = 0 then zz_bd (f_X9_finds a0 (-1000000001 : Int32) M_2) (fun r_4 M_5 => some (r_4, M_5)) else (if x2 = 0 then b_X9_sheet_36  a0 x1 x2 x3 M_2 else (if x2 = (8 : Int32) then b_X9_sheet_36  a0 x1 x2 x3 M_2 else (if x2 = (16 : Int32) then b_X9_sheet_36  a0 x1 x2 x3 M_2 else (if x2 = (64 : Int32) then b_X9_sheet_36  a0 x1 x2 x3 M_2 else zz_bd (f_X9_finds a0 (-1000000001 : Int32) M_2) (fun r_10 M_11 => some (r_10, M_11))))))))
set_option maxRecDepth 100000 in
set_option maxHeartbeats 4000000 in
theorem m_X9_sheet (l : Launch) (E : zz_E) (a0 : Nat) (x1 : Int32) (x2 : Int32) (x3 : Int32) (h0 : zz_sh a0 = 9) (M : zz_M) : zz_Met (zz_pi E) l yX9_sheet wsX9_sheet 3 E [.ref (E.1 + a0), .int x1, .int x2, .int x3] M (f_X9_sheet a0 x1 x2 x3 M) := by
  refine zz_met (cc := cX9_sheet) (nL := 5) (ret := (some .int)) (by decide) rfl (Nat.le_of_ble_eq_true rfl) ?_
  intro p e s m below meth c C hr ls hl
  have C : zz_C E RX9 cX9_sheet 5 wsX9_sheet p s m [.ref (E.1 + a0), .int x1, .int x2, .int x3].toArray meth c := C
  have hl : lv_has ls 5 [(0, .ref (E.1 + a0)), (1, .int x1), (2, .int x2), (3, .int x3)] := hl
  unfold f_X9_sheet
  refine zz_iload_n C dX9_sheet_0 rfl (lv_at hl 1 rfl) ?_
  refine zz_callSi (As := [.int x1]) (rest := []) C (m_X9_isSheet l E x1  M) (va_cwS 1 C.1.2.2.2.2 gX9_sheet_X9_isSheet rfl rfl rfl hdS_X9_isSheet ⟨Nat.le_of_ble_eq_true rfl, Nat.le_of_ble_eq_true rfl⟩) rfl hl.1 rfl (Nat.le_of_ble_eq_true rfl) dX9_sheet_1 (fun r_1 M_2 => ?_)
  refine zz_if_eq (tgt := 29) C dX9_sheet_4 (by decide) (fun c_3 => ?_) (fun c_3 => ?_)
  · refine zz_aload_n C dX9_sheet_29 rfl (lv_at hl 0 rfl) ?_
    refine zz_ldc (v := -1000000001) C (List.mem_of_getElem? (i := 1) rfl) dX9_sheet_30 ?_
    refine zz_callVi (As := [.int (-1000000001 : Int32)]) (rest := []) C (m_X9_finds l E a0 (-1000000001 : Int32) h0 M_2) (cwV 1 C.1.2.2.2.2 gX9_sheet_X9_finds rfl rfl rfl hdV_X9_finds ⟨Nat.le_of_ble_eq_true rfl, Nat.le_of_ble_eq_true rfl⟩) (zz_lt h0 (by decide)) (zz_c9 h0) rfl rfl hl.1 rfl (Nat.le_of_ble_eq_true rfl) dX9_sheet_32 (fun r_4 M_5 => ?_)
    exact zz_iret C hr dX9_sheet_35
  · refine zz_iload_n C dX9_sheet_7 rfl (lv_at hl 2 rfl) ?_
    refine zz_if_eq (tgt := 36) C dX9_sheet_8 (by decide) (fun c_6 => ?_) (fun c_6 => ?_)
    · exact wb_X9_sheet_36 C hr  a0 x1 x2 x3 h0 M_2 ls (lv_sub hl [0, 1, 2, 3] rfl)
    · refine zz_iload_n C dX9_sheet_11 rfl (lv_at hl 2 rfl) ?_
      refine zz_bipush (v := 8) C dX9_sheet_12 (by decide) ?_
      refine zz_icmp_eq (tgt := 36) C dX9_sheet_14 (by decide) (fun c_7 => ?_) (fun c_7 => ?_)
      · exact wb_X9_sheet_36 C hr  a0 x1 x2 x3 h0 M_2 ls (lv_sub hl [0, 1, 2, 3] rfl)
      · refine zz_iload_n C dX9_sheet_17 rfl (lv_at hl 2 rfl) ?_
        refine zz_bipush (v := 16) C dX9_sheet_18 (by decide) ?_
        refine zz_icmp_eq (tgt := 36) C dX9_sheet_20 (by decide) (fun c_8 => ?_) (fun c_8 => ?_)
        · exact wb_X9_sheet_36 C hr  a0 x1 x2 x3 h0 M_2 ls (lv_sub hl [0, 1, 2, 3] rfl)
        · refine zz_iload_n C dX9_sheet_23 rfl (lv_at hl 2 rfl) ?_
          refine zz_bipush (v := 64) C dX9_sheet_24 (by decide) ?_
          refine zz_icmp_eq (tgt := 36) C dX9_sheet_26 (by decide) (fun c_9 => ?_) (fun c_9 => ?_)
          · exact wb_X9_sheet_36 C hr  a0 x1 x2 x3 h0 M_2 ls (lv_sub hl [0, 1, 2, 3] rfl)
          · refine zz_aload_n C dX9_sheet_29 rfl (lv_at hl 0 rfl) ?_
            refine zz_ldc (v := -1000000001) C (List.mem_of_getElem? (i := 1) rfl) dX9_sheet_30 ?_
            refine zz_callVi (As := [.int (-1000000001 : Int32)]) (rest := []) C (m_X9_finds l E a0 (-1000000001 : Int32) h0 M_2) (cwV 1 C.1.2.2.2.2 gX9_sheet_X9_finds rfl rfl rfl hdV_X9_finds ⟨Nat.le_of_ble_eq_true rfl, Nat.le_of_ble_eq_true rfl⟩) (zz_lt h0 (by decide)) (zz_c9 h0) rfl rfl hl.1 rfl (Nat.le_of_ble_eq_true rfl) dX9_sheet_32 (fun r_10 M_11 => ?_)
            exact zz_iret C hr dX9_sheet_35
-- X9_write ('X9', 'write', '(IIJ)J')
theorem in_X9_write_X9 : ∀ w ∈ u_ws RX9 TX9 20, w ∈ wsX9_write := fun _ h => List.mem_cons_of_mem _ (List.mem_append_right _ h)
theorem hdS_X9_narrow : yX9_narrow.cls ≠ "java/lang/invoke/MethodHandle" ∧ yX9_narrow.cls ≠ "java/lang/invoke/VarHandle" ∧ (parseMethodDescriptor yX9_narrow.desc).map (fun d => d.parameters.length) = some 2 := by decide +kernel
def f_X9_write (a0 : Nat) (x1 : Int32) (x2 : Int32) (y3 : Int64) (M : zz_M) : Option (Int64 × zz_M) := zz_bd (f_X9_isSheet x1 M) (fun r_1 M_2 => (if r_1 = 0 then zz_bd (f_X9_finds a0 (-1000000001 : Int32) M_2) (fun r_16 M_17 => some ((r_16.toInt64), M_17)) else (if zz_in x1 4 = true then (if (zz_i M_2 135 (zz_n x1)) = 0 then zz_bd (f_X9_finds a0 (-1000000006 : Int32) M_2) (fun r_14 M_15 => some ((r_14.toInt64), M_15)) else (if zz_in x1 4 = true then zz_bd (f_X9_in x2 (0 : Int32) ((zz_i M_2 136 (zz_n x1)) - (1 : Int32)) M_2) (fun r_5 M_6 => (if r_5 = 0 then zz_bd (f_X9_finds a0 (-1000000001 : Int32) M_6) (fun r_12 M_13 => some ((r_12.toInt64), M_13)) else (if zz_in (((40 : Int32) * x1) + x2) 160 = true then zz_w (zz_j M_6 137 (zz_n (((40 : Int32) * x1) + x2))) (fun y5_8 => (if zz_in x1 4 = true then zz_bd (f_X9_narrow (zz_i M_6 135 (zz_n x1)) y3 M_6) (fun r_9 M_10 => (if zz_in (((40 : Int32) * x1) + x2) 160 = true then zz_w (zz_sj M_10 137 (zz_n (((40 : Int32) * x1) + x2)) r_9) (fun M_11 => some (y5_8, M_11)) else none)) else none)) else none))) else none)) else none)))
set_option maxRecDepth 100000 in
set_option maxHeartbeats 4000000 in
theorem m_X9_write (l : Launch) (E : zz_E) (a0 : Nat) (x1 : Int32) (x2 : Int32) (y3 : Int64) (h0 : zz_sh a0 = 9) (M : zz_M) : zz_Met (zz_pl E) l yX9_write wsX9_write 3 E [.ref (E.1 + a0), .int x1, .int x2, .long y3] M (f_X9_write a0 x1 x2 y3 M) := by
  refine zz_met (cc := cX9_write) (nL := 7) (ret := (some .long)) (by decide) rfl (Nat.le_of_ble_eq_true rfl) ?_
  intro p e s m below meth c C hr ls hl
  have C : zz_C E RX9 cX9_write 7 wsX9_write p s m [.ref (E.1 + a0), .int x1, .int x2, .long y3].toArray meth c := C
  have hl : lv_has ls 7 [(0, .ref (E.1 + a0)), (1, .int x1), (2, .int x2), (3, .long y3)] := hl
  unfold f_X9_write
  refine zz_iload_n C dX9_write_0 rfl (lv_at hl 1 rfl) ?_
  refine zz_callSi (As := [.int x1]) (rest := []) C (m_X9_isSheet l E x1  M) (va_cwS 1 C.1.2.2.2.2 gX9_write_X9_isSheet rfl rfl rfl hdS_X9_isSheet ⟨Nat.le_of_ble_eq_true rfl, Nat.le_of_ble_eq_true rfl⟩) rfl hl.1 rfl (Nat.le_of_ble_eq_true rfl) dX9_write_1 (fun r_1 M_2 => ?_)
  refine zz_if_ne (tgt := 15) C dX9_write_4 (by decide) (fun c_3 => ?_) (fun c_3 => ?_)
  · refine zz_aload_n C dX9_write_7 rfl (lv_at hl 0 rfl) ?_
    refine zz_ldc (v := -1000000001) C (List.mem_of_getElem? (i := 1) rfl) dX9_write_8 ?_
    refine zz_callVi (As := [.int (-1000000001 : Int32)]) (rest := []) C (m_X9_finds l E a0 (-1000000001 : Int32) h0 M_2) (cwV 1 C.1.2.2.2.2 gX9_write_X9_finds rfl rfl rfl hdV_X9_finds ⟨Nat.le_of_ble_eq_true rfl, Nat.le_of_ble_eq_true rfl⟩) (zz_lt h0 (by decide)) (zz_c9 h0) rfl rfl hl.1 rfl (Nat.le_of_ble_eq_true rfl) dX9_write_10 (fun r_16 M_17 => ?_)
    refine zz_i2l C dX9_write_13 ?_
    exact zz_lret C hr dX9_write_14
  · refine zz_aload_n C dX9_write_15 rfl (lv_at hl 0 rfl) ?_
    refine zz_get C (zz_lt h0 (by decide)) (zz_c9 h0) rfl in_X9_write_X9 13 (by decide) (List.mem_of_getElem? (i := 2) rfl) rfl dX9_write_16 ?_
    refine zz_iload_n C dX9_write_19 rfl (lv_at hl 1 rfl) ?_
    refine zz_iald C (zz_lt (zz_s9_13 h0) (by decide)) (zz_c15 (zz_s9_13 h0)) dX9_write_20 ?_
    refine zz_if_ne (tgt := 33) C dX9_write_21 (by decide) (fun c_4 => ?_) (fun c_4 => ?_)
    · refine zz_aload_n C dX9_write_24 rfl (lv_at hl 0 rfl) ?_
      refine zz_ldcw (v := -1000000006) C (List.mem_of_getElem? (i := 3) rfl) dX9_write_25 ?_
      refine zz_callVi (As := [.int (-1000000006 : Int32)]) (rest := []) C (m_X9_finds l E a0 (-1000000006 : Int32) h0 M_2) (cwV 1 C.1.2.2.2.2 gX9_write_X9_finds rfl rfl rfl hdV_X9_finds ⟨Nat.le_of_ble_eq_true rfl, Nat.le_of_ble_eq_true rfl⟩) (zz_lt h0 (by decide)) (zz_c9 h0) rfl rfl hl.1 rfl (Nat.le_of_ble_eq_true rfl) dX9_write_28 (fun r_14 M_15 => ?_)
      refine zz_i2l C dX9_write_31 ?_
      exact zz_lret C hr dX9_write_32
    · refine zz_iload_n C dX9_write_33 rfl (lv_at hl 2 rfl) ?_
      refine zz_iconst (v := 0) C dX9_write_34 (by decide) ?_
      refine zz_aload_n C dX9_write_35 rfl (lv_at hl 0 rfl) ?_
      refine zz_get C (zz_lt h0 (by decide)) (zz_c9 h0) rfl in_X9_write_X9 14 (by decide) (List.mem_of_getElem? (i := 4) rfl) rfl dX9_write_36 ?_
      refine zz_iload_n C dX9_write_39 rfl (lv_at hl 1 rfl) ?_
      refine zz_iald C (zz_lt (zz_s9_14 h0) (by decide)) (zz_c15 (zz_s9_14 h0)) dX9_write_40 ?_
      refine zz_iconst (v := 1) C dX9_write_41 (by decide) ?_
      refine zz_isub C dX9_write_42 ?_
      refine zz_callSi (As := [.int x2, .int (0 : Int32), .int ((zz_i M_2 136 (zz_n x1)) - (1 : Int32))]) (rest := []) C (m_X9_in l E x2 (0 : Int32) ((zz_i M_2 136 (zz_n x1)) - (1 : Int32))  M_2) (va_cwS 3 C.1.2.2.2.2 gX9_write_X9_in rfl rfl rfl hdS_X9_in ⟨Nat.le_of_ble_eq_true rfl, Nat.le_of_ble_eq_true rfl⟩) rfl hl.1 rfl (Nat.le_of_ble_eq_true rfl) dX9_write_43 (fun r_5 M_6 => ?_)
      refine zz_if_ne (tgt := 57) C dX9_write_46 (by decide) (fun c_7 => ?_) (fun c_7 => ?_)
      · refine zz_aload_n C dX9_write_49 rfl (lv_at hl 0 rfl) ?_
        refine zz_ldc (v := -1000000001) C (List.mem_of_getElem? (i := 1) rfl) dX9_write_50 ?_
        refine zz_callVi (As := [.int (-1000000001 : Int32)]) (rest := []) C (m_X9_finds l E a0 (-1000000001 : Int32) h0 M_6) (cwV 1 C.1.2.2.2.2 gX9_write_X9_finds rfl rfl rfl hdV_X9_finds ⟨Nat.le_of_ble_eq_true rfl, Nat.le_of_ble_eq_true rfl⟩) (zz_lt h0 (by decide)) (zz_c9 h0) rfl rfl hl.1 rfl (Nat.le_of_ble_eq_true rfl) dX9_write_52 (fun r_12 M_13 => ?_)
        refine zz_i2l C dX9_write_55 ?_
        exact zz_lret C hr dX9_write_56
      · refine zz_aload_n C dX9_write_57 rfl (lv_at hl 0 rfl) ?_
        refine zz_get C (zz_lt h0 (by decide)) (zz_c9 h0) rfl in_X9_write_X9 15 (by decide) (List.mem_of_getElem? (i := 5) rfl) rfl dX9_write_58 ?_
        refine zz_bipush (v := 40) C dX9_write_61 (by decide) ?_
        refine zz_iload_n C dX9_write_63 rfl (lv_at hl 1 rfl) ?_
        refine zz_imul C dX9_write_64 ?_
        refine zz_iload_n C dX9_write_65 rfl (lv_at hl 2 rfl) ?_
        refine zz_iadd C dX9_write_66 ?_
        refine zz_lald C (zz_lt (zz_s9_15 h0) (by decide)) (zz_c17 (zz_s9_15 h0)) dX9_write_67 ?_
        refine zz_lstore C (fun y5_8 => [(5, .long y5_8), (0, .ref (E.1 + a0)), (1, .int x1), (2, .int x2), (3, .long y3)]) dX9_write_68 hl (by decide) (fun _ => rfl) (fun y5_8 ls hl => ?_)
        refine zz_aload_n C dX9_write_70 rfl (lv_at hl 1 rfl) ?_
        refine zz_get C (zz_lt h0 (by decide)) (zz_c9 h0) rfl in_X9_write_X9 15 (by decide) (List.mem_of_getElem? (i := 5) rfl) rfl dX9_write_71 ?_
        refine zz_bipush (v := 40) C dX9_write_74 (by decide) ?_
        refine zz_iload_n C dX9_write_76 rfl (lv_at hl 2 rfl) ?_
        refine zz_imul C dX9_write_77 ?_
        refine zz_iload_n C dX9_write_78 rfl (lv_at hl 3 rfl) ?_
        refine zz_iadd C dX9_write_79 ?_
        refine zz_aload_n C dX9_write_80 rfl (lv_at hl 1 rfl) ?_
        refine zz_get C (zz_lt h0 (by decide)) (zz_c9 h0) rfl in_X9_write_X9 13 (by decide) (List.mem_of_getElem? (i := 2) rfl) rfl dX9_write_81 ?_
        refine zz_iload_n C dX9_write_84 rfl (lv_at hl 2 rfl) ?_
        refine zz_iald C (zz_lt (zz_s9_13 h0) (by decide)) (zz_c15 (zz_s9_13 h0)) dX9_write_85 ?_
        refine zz_lload_n C dX9_write_86 rfl (lv_at hl 4 rfl) ?_
        refine zz_callSl (As := [.int (zz_i M_6 135 (zz_n x1)), .long y3]) (rest := [.int (((40 : Int32) * x1) + x2), .ref (E.1 + 137)]) C (m_X9_narrow l E (zz_i M_6 135 (zz_n x1)) y3  M_6) (va_cwS 2 C.1.2.2.2.2 gX9_write_X9_narrow rfl rfl rfl hdS_X9_narrow ⟨Nat.le_of_ble_eq_true rfl, Nat.le_of_ble_eq_true rfl⟩) rfl hl.1 rfl (Nat.le_of_ble_eq_true rfl) dX9_write_87 (fun r_9 M_10 => ?_)
        refine zz_last C (zz_lt (zz_s9_15 h0) (by decide)) (fun _ => zz_c17 (zz_s9_15 h0)) dX9_write_90 (fun M_11 => ?_)
        refine zz_lload C dX9_write_91 (lv_at hl 0 rfl) ?_
        exact zz_lret C hr dX9_write_93
-- X9_isPart ('X9', 'isPart', '(III)Z')
theorem in_X9_isPart_X9 : ∀ w ∈ u_ws RX9 TX9 20, w ∈ wsX9_isPart := fun _ h => List.mem_cons_of_mem _ (List.mem_append_right _ h)
def f_X9_isPart (a0 : Nat) (x1 : Int32) (x2 : Int32) (x3 : Int32) (M : zz_M) : Option (Int32 × zz_M) := (if x2 < 0 then some ((0 : Int32), M) else (if x3 < 0 then some ((0 : Int32), M) else (if zz_in x1 4 = true then (if (zz_i M 136 (zz_n x1)) < x3 then some ((0 : Int32), M) else (if zz_in x1 4 = true then (if ((zz_i M 136 (zz_n x1)) - x3) < x2 then some ((0 : Int32), M) else some ((1 : Int32), M)) else none)) else none)))
set_option maxRecDepth 100000 in
set_option maxHeartbeats 4000000 in
theorem m_X9_isPart (l : Launch) (E : zz_E) (a0 : Nat) (x1 : Int32) (x2 : Int32) (x3 : Int32) (h0 : zz_sh a0 = 9) (M : zz_M) : zz_Met (zz_pi E) l yX9_isPart wsX9_isPart 1 E [.ref (E.1 + a0), .int x1, .int x2, .int x3] M (f_X9_isPart a0 x1 x2 x3 M) := by
  refine zz_met (cc := cX9_isPart) (nL := 4) (ret := (some .boolean)) (by decide) rfl (Nat.le_of_ble_eq_true rfl) ?_
  intro p e s m below meth c C hr ls hl
  have C : zz_C E RX9 cX9_isPart 4 wsX9_isPart p s m [.ref (E.1 + a0), .int x1, .int x2, .int x3].toArray meth c := C
  have hl : lv_has ls 4 [(0, .ref (E.1 + a0)), (1, .int x1), (2, .int x2), (3, .int x3)] := hl
  unfold f_X9_isPart
  refine zz_iload_n C dX9_isPart_0 rfl (lv_at hl 2 rfl) ?_
  refine zz_if_lt (tgt := 34) C dX9_isPart_1 (by decide) (fun c_1 => ?_) (fun c_1 => ?_)
  · refine zz_iconst (v := 0) C dX9_isPart_34 (by decide) ?_
    exact zz_zretl C (v := (0 : Int32)) rfl hr dX9_isPart_35
  · refine zz_iload_n C dX9_isPart_4 rfl (lv_at hl 3 rfl) ?_
    refine zz_if_lt (tgt := 34) C dX9_isPart_5 (by decide) (fun c_2 => ?_) (fun c_2 => ?_)
    · refine zz_iconst (v := 0) C dX9_isPart_34 (by decide) ?_
      exact zz_zretl C (v := (0 : Int32)) rfl hr dX9_isPart_35
    · refine zz_iload_n C dX9_isPart_8 rfl (lv_at hl 3 rfl) ?_
      refine zz_aload_n C dX9_isPart_9 rfl (lv_at hl 0 rfl) ?_
      refine zz_get C (zz_lt h0 (by decide)) (zz_c9 h0) rfl in_X9_isPart_X9 14 (by decide) (List.mem_of_getElem? (i := 1) rfl) rfl dX9_isPart_10 ?_
      refine zz_iload_n C dX9_isPart_13 rfl (lv_at hl 1 rfl) ?_
      refine zz_iald C (zz_lt (zz_s9_14 h0) (by decide)) (zz_c15 (zz_s9_14 h0)) dX9_isPart_14 ?_
      refine zz_icmp_gt (tgt := 34) C dX9_isPart_15 (by decide) (fun c_3 => ?_) (fun c_3 => ?_)
      · refine zz_iconst (v := 0) C dX9_isPart_34 (by decide) ?_
        exact zz_zretl C (v := (0 : Int32)) rfl hr dX9_isPart_35
      · refine zz_iload_n C dX9_isPart_18 rfl (lv_at hl 2 rfl) ?_
        refine zz_aload_n C dX9_isPart_19 rfl (lv_at hl 0 rfl) ?_
        refine zz_get C (zz_lt h0 (by decide)) (zz_c9 h0) rfl in_X9_isPart_X9 14 (by decide) (List.mem_of_getElem? (i := 1) rfl) rfl dX9_isPart_20 ?_
        refine zz_iload_n C dX9_isPart_23 rfl (lv_at hl 1 rfl) ?_
        refine zz_iald C (zz_lt (zz_s9_14 h0) (by decide)) (zz_c15 (zz_s9_14 h0)) dX9_isPart_24 ?_
        refine zz_iload_n C dX9_isPart_25 rfl (lv_at hl 3 rfl) ?_
        refine zz_isub C dX9_isPart_26 ?_
        refine zz_icmp_gt (tgt := 34) C dX9_isPart_27 (by decide) (fun c_4 => ?_) (fun c_4 => ?_)
        · refine zz_iconst (v := 0) C dX9_isPart_34 (by decide) ?_
          exact zz_zretl C (v := (0 : Int32)) rfl hr dX9_isPart_35
        · refine zz_iconst (v := 1) C dX9_isPart_30 (by decide) ?_
          refine zz_goto (tgt := 35) C dX9_isPart_31 (by decide) ?_
          exact zz_zretl C (v := (1 : Int32)) rfl hr dX9_isPart_35
-- X9_copy ('X9', 'copy', '(IIIII)I')
theorem in_X9_copy_X9 : ∀ w ∈ u_ws RX9 TX9 20, w ∈ wsX9_copy := fun _ h => List.mem_cons_of_mem _ (List.mem_append_right _ h)
theorem hdV_X9_isPart : yX9_isPart.cls = RX9 ∧ yX9_isPart.cls ≠ "java/lang/invoke/MethodHandle" ∧ yX9_isPart.cls ≠ "java/lang/invoke/VarHandle" ∧ (parseMethodDescriptor yX9_isPart.desc).map (fun d => d.parameters.length) = some 3 := by decide +kernel
def b_X9_copy_139 : Nat → Nat → Int32 → Int32 → Int32 → Int32 → zz_M → Option (Int32 × zz_M)
  | 0 => fun _ _ _ _ _ _ => none
  | n + 1 => fun a0 x3 x4 x5 x6 M => (if x5 ≤ x6 then some (x5, M) else (if zz_in x6 40 = true then (if zz_in ((((40 : Int32) * x3) + x4) + x6) 160 = true then zz_w (zz_sj M 137 (zz_n ((((40 : Int32) * x3) + x4) + x6)) (zz_j M 138 (zz_n x6))) (fun M_34 => zz_w (x6 + (1 : Int32)) (fun x6_35 => (b_X9_copy_139 n) a0 x3 x4 x5 x6_35 M_34)) else none) else none))
set_option maxRecDepth 100000 in
set_option maxHeartbeats 4000000 in
theorem wb_X9_copy_139 {p : Program} {l : Launch} {e : Env} {s : State} {m : MethodId} {args : Array Value} {below : List Frame} {meth : Method} {c : Code} {E : zz_E} (C : zz_C E RX9 cX9_copy 7 wsX9_copy p s m args meth c) (hr : meth.sig.returnType = (some .int)) : ∀ (n : Nat) (a0 : Nat) (x3 : Int32) (x4 : Int32) (x5 : Int32) (x6 : Int32) (ha0 : zz_sh a0 = 9) (M : zz_M) (ls : Array Slot), lv_has ls 7 [(0, .ref (E.1 + a0)), (3, .int x3), (4, .int x4), (5, .int x5), (6, .int x6)] → zz_Z E p l e (zz_rm 3) s m args below meth c (zz_Q (zz_pi E) E below args s) (b_X9_copy_139 n a0 x3 x4 x5 x6 M) M (F0 m 139 ls []) := by
  intro n
  induction n with
  | zero => intro a0 x3 x4 x5 x6 ha0 M ls hl; exact zz_none
  | succ n ih =>
    intro a0 x3 x4 x5 x6 ha0 M ls hl
    rw [b_X9_copy_139]
    refine zz_iload C dX9_copy_139 (lv_at hl 4 rfl) ?_
    refine zz_iload C dX9_copy_141 (lv_at hl 3 rfl) ?_
    refine zz_icmp_ge (tgt := 174) C dX9_copy_143 (by decide) (fun c_33 => ?_) (fun c_33 => ?_)
    · refine zz_iload C dX9_copy_174 (lv_at hl 3 rfl) ?_
      exact zz_iret C hr dX9_copy_176
    · refine zz_aload_n C dX9_copy_146 rfl (lv_at hl 0 rfl) ?_
      refine zz_get C (zz_lt ha0 (by decide)) (zz_c9 ha0) rfl in_X9_copy_X9 15 (by decide) (List.mem_of_getElem? (i := 6) rfl) rfl dX9_copy_147 ?_
      refine zz_bipush (v := 40) C dX9_copy_150 (by decide) ?_
      refine zz_iload_n C dX9_copy_152 rfl (lv_at hl 1 rfl) ?_
      refine zz_imul C dX9_copy_153 ?_
      refine zz_iload C dX9_copy_154 (lv_at hl 2 rfl) ?_
      refine zz_iadd C dX9_copy_156 ?_
      refine zz_iload C dX9_copy_157 (lv_at hl 4 rfl) ?_
      refine zz_iadd C dX9_copy_159 ?_
      refine zz_aload_n C dX9_copy_160 rfl (lv_at hl 0 rfl) ?_
      refine zz_get C (zz_lt ha0 (by decide)) (zz_c9 ha0) rfl in_X9_copy_X9 16 (by decide) (List.mem_of_getElem? (i := 5) rfl) rfl dX9_copy_161 ?_
      refine zz_iload C dX9_copy_164 (lv_at hl 4 rfl) ?_
      refine zz_lald C (zz_lt (zz_s9_16 ha0) (by decide)) (zz_c16 (zz_s9_16 ha0)) dX9_copy_166 ?_
      refine zz_last C (zz_lt (zz_s9_15 ha0) (by decide)) (fun _ => zz_c17 (zz_s9_15 ha0)) dX9_copy_167 (fun M_34 => ?_)
      refine zz_iinc (k9 := 4) (d := 1) C (fun x6_35 => [(6, .int x6_35), (0, .ref (E.1 + a0)), (3, .int x3), (4, .int x4), (5, .int x5)]) dX9_copy_168 hl rfl (by decide) (by decide) (fun _ => rfl) (fun x6_35 ls hl => ?_)
      refine zz_goto (tgt := 139) C dX9_copy_171 (by decide) ?_
      exact ih a0 x3 x4 x5 x6_35 ha0 M_34 ls (lv_sub hl [1, 2, 3, 4, 0] rfl)
def b_X9_copy_102 : Nat → Nat → Int32 → Int32 → Int32 → Int32 → Int32 → Int32 → zz_M → Option (Int32 × zz_M)
  | 0 => fun _ _ _ _ _ _ _ _ => none
  | n + 1 => fun a0 x1 x2 x3 x4 x5 x6 M => (if x5 ≤ x6 then b_X9_copy_139  zz_fuel a0 x3 x4 x5 (0 : Int32) M else (if zz_in ((((40 : Int32) * x1) + x2) + x6) 160 = true then (if zz_in x6 40 = true then zz_w (zz_sj M 138 (zz_n x6) (zz_j M 137 (zz_n ((((40 : Int32) * x1) + x2) + x6)))) (fun M_31 => zz_w (x6 + (1 : Int32)) (fun x6_32 => (b_X9_copy_102 n) a0 x1 x2 x3 x4 x5 x6_32 M_31)) else none) else none))
set_option maxRecDepth 100000 in
set_option maxHeartbeats 4000000 in
theorem wb_X9_copy_102 {p : Program} {l : Launch} {e : Env} {s : State} {m : MethodId} {args : Array Value} {below : List Frame} {meth : Method} {c : Code} {E : zz_E} (C : zz_C E RX9 cX9_copy 7 wsX9_copy p s m args meth c) (hr : meth.sig.returnType = (some .int)) : ∀ (n : Nat) (a0 : Nat) (x1 : Int32) (x2 : Int32) (x3 : Int32) (x4 : Int32) (x5 : Int32) (x6 : Int32) (ha0 : zz_sh a0 = 9) (M : zz_M) (ls : Array Slot), lv_has ls 7 [(0, .ref (E.1 + a0)), (1, .int x1), (2, .int x2), (3, .int x3), (4, .int x4), (5, .int x5), (6, .int x6)] → zz_Z E p l e (zz_rm 3) s m args below meth c (zz_Q (zz_pi E) E below args s) (b_X9_copy_102 n a0 x1 x2 x3 x4 x5 x6 M) M (F0 m 102 ls []) := by
  intro n
  induction n with
  | zero => intro a0 x1 x2 x3 x4 x5 x6 ha0 M ls hl; exact zz_none
  | succ n ih =>
    intro a0 x1 x2 x3 x4 x5 x6 ha0 M ls hl
    rw [b_X9_copy_102]
    refine zz_iload C dX9_copy_102 (lv_at hl 6 rfl) ?_
    refine zz_iload C dX9_copy_104 (lv_at hl 5 rfl) ?_
    refine zz_icmp_ge (tgt := 136) C dX9_copy_106 (by decide) (fun c_30 => ?_) (fun c_30 => ?_)
    · refine zz_iconst (v := 0) C dX9_copy_136 (by decide) ?_
      refine zz_istored (lv' := [(6, .int (0 : Int32)), (0, .ref (E.1 + a0)), (1, .int x1), (2, .int x2), (3, .int x3), (4, .int x4), (5, .int x5)]) C dX9_copy_137 hl (by decide) rfl (fun ls hl => ?_)
      exact wb_X9_copy_139 C hr  zz_fuel a0 x3 x4 x5 (0 : Int32) ha0 M ls (lv_sub hl [1, 4, 5, 6, 0] rfl)
    · refine zz_aload_n C dX9_copy_109 rfl (lv_at hl 0 rfl) ?_
      refine zz_get C (zz_lt ha0 (by decide)) (zz_c9 ha0) rfl in_X9_copy_X9 16 (by decide) (List.mem_of_getElem? (i := 5) rfl) rfl dX9_copy_110 ?_
      refine zz_iload C dX9_copy_113 (lv_at hl 6 rfl) ?_
      refine zz_aload_n C dX9_copy_115 rfl (lv_at hl 0 rfl) ?_
      refine zz_get C (zz_lt ha0 (by decide)) (zz_c9 ha0) rfl in_X9_copy_X9 15 (by decide) (List.mem_of_getElem? (i := 6) rfl) rfl dX9_copy_116 ?_
      refine zz_bipush (v := 40) C dX9_copy_119 (by decide) ?_
      refine zz_iload_n C dX9_copy_121 rfl (lv_at hl 1 rfl) ?_
      refine zz_imul C dX9_copy_122 ?_
      refine zz_iload_n C dX9_copy_123 rfl (lv_at hl 2 rfl) ?_
      refine zz_iadd C dX9_copy_124 ?_
      refine zz_iload C dX9_copy_125 (lv_at hl 6 rfl) ?_
      refine zz_iadd C dX9_copy_127 ?_
      refine zz_lald C (zz_lt (zz_s9_15 ha0) (by decide)) (zz_c17 (zz_s9_15 ha0)) dX9_copy_128 ?_
      refine zz_last C (zz_lt (zz_s9_16 ha0) (by decide)) (fun _ => zz_c16 (zz_s9_16 ha0)) dX9_copy_129 (fun M_31 => ?_)
      refine zz_iinc (k9 := 6) (d := 1) C (fun x6_32 => [(6, .int x6_32), (0, .ref (E.1 + a0)), (1, .int x1), (2, .int x2), (3, .int x3), (4, .int x4), (5, .int x5)]) dX9_copy_130 hl rfl (by decide) (by decide) (fun _ => rfl) (fun x6_32 ls hl => ?_)
      refine zz_goto (tgt := 102) C dX9_copy_133 (by decide) ?_
      exact ih a0 x1 x2 x3 x4 x5 x6_32 ha0 M_31 ls (lv_sub hl [1, 2, 3, 4, 5, 6, 0] rfl)
def f_X9_copy (a0 : Nat) (x1 : Int32) (x2 : Int32) (x3 : Int32) (x4 : Int32) (x5 : Int32) (M : zz_M) : Option (Int32 × zz_M) := zz_bd (f_X9_isSheet x1 M) (fun r_1 M_2 => (if r_1 = 0 then zz_bd (f_X9_finds a0 (-1000000001 : Int32) M_2) (fun r_4 M_5 => some (r_4, M_5)) else zz_bd (f_X9_isSheet x3 M_2) (fun r_6 M_7 => (if r_6 = 0 then zz_bd (f_X9_finds a0 (-1000000001 : Int32) M_7) (fun r_28 M_29 => some (r_28, M_29)) else (if zz_in x1 4 = true then (if (zz_i M_7 135 (zz_n x1)) = 0 then zz_bd (f_X9_finds a0 (-1000000006 : Int32) M_7) (fun r_10 M_11 => some (r_10, M_11)) else (if zz_in x3 4 = true then (if (zz_i M_7 135 (zz_n x3)) = 0 then zz_bd (f_X9_finds a0 (-1000000006 : Int32) M_7) (fun r_26 M_27 => some (r_26, M_27)) else (if zz_in x1 4 = true then (if zz_in x3 4 = true then (if (zz_i M_7 135 (zz_n x1)) = (zz_i M_7 135 (zz_n x3)) then zz_bd (f_X9_isPart a0 x1 x2 x5 M_7) (fun r_14 M_15 => (if r_14 = 0 then zz_bd (f_X9_finds a0 (-1000000001 : Int32) M_15) (fun r_17 M_18 => some (r_17, M_18)) else zz_bd (f_X9_isPart a0 x3 x4 x5 M_15) (fun r_19 M_20 => (if r_19 = 0 then zz_bd (f_X9_finds a0 (-1000000001 : Int32) M_20) (fun r_22 M_23 => some (r_22, M_23)) else b_X9_copy_102  zz_fuel a0 x1 x2 x3 x4 x5 (0 : Int32) M_20)))) else zz_bd (f_X9_finds a0 (-1000000003 : Int32) M_7) (fun r_24 M_25 => some (r_24, M_25))) else none) else none)) else none)) else none)))))
set_option maxRecDepth 100000 in
set_option maxHeartbeats 4000000 in
theorem m_X9_copy (l : Launch) (E : zz_E) (a0 : Nat) (x1 : Int32) (x2 : Int32) (x3 : Int32) (x4 : Int32) (x5 : Int32) (h0 : zz_sh a0 = 9) (M : zz_M) : zz_Met (zz_pi E) l yX9_copy wsX9_copy 3 E [.ref (E.1 + a0), .int x1, .int x2, .int x3, .int x4, .int x5] M (f_X9_copy a0 x1 x2 x3 x4 x5 M) := by
  refine zz_met (cc := cX9_copy) (nL := 7) (ret := (some .int)) (by decide) rfl (Nat.le_of_ble_eq_true rfl) ?_
  intro p e s m below meth c C hr ls hl
  have C : zz_C E RX9 cX9_copy 7 wsX9_copy p s m [.ref (E.1 + a0), .int x1, .int x2, .int x3, .int x4, .int x5].toArray meth c := C
  have hl : lv_has ls 7 [(0, .ref (E.1 + a0)), (1, .int x1), (2, .int x2), (3, .int x3), (4, .int x4), (5, .int x5)] := hl
  unfold f_X9_copy
  refine zz_iload_n C dX9_copy_0 rfl (lv_at hl 1 rfl) ?_
  refine zz_callSi (As := [.int x1]) (rest := []) C (m_X9_isSheet l E x1  M) (va_cwS 1 C.1.2.2.2.2 gX9_copy_X9_isSheet rfl rfl rfl hdS_X9_isSheet ⟨Nat.le_of_ble_eq_true rfl, Nat.le_of_ble_eq_true rfl⟩) rfl hl.1 rfl (Nat.le_of_ble_eq_true rfl) dX9_copy_1 (fun r_1 M_2 => ?_)
  refine zz_if_eq (tgt := 14) C dX9_copy_4 (by decide) (fun c_3 => ?_) (fun c_3 => ?_)
  · refine zz_aload_n C dX9_copy_14 rfl (lv_at hl 0 rfl) ?_
    refine zz_ldc (v := -1000000001) C (List.mem_of_getElem? (i := 1) rfl) dX9_copy_15 ?_
    refine zz_callVi (As := [.int (-1000000001 : Int32)]) (rest := []) C (m_X9_finds l E a0 (-1000000001 : Int32) h0 M_2) (cwV 1 C.1.2.2.2.2 gX9_copy_X9_finds rfl rfl rfl hdV_X9_finds ⟨Nat.le_of_ble_eq_true rfl, Nat.le_of_ble_eq_true rfl⟩) (zz_lt h0 (by decide)) (zz_c9 h0) rfl rfl hl.1 rfl (Nat.le_of_ble_eq_true rfl) dX9_copy_17 (fun r_4 M_5 => ?_)
    exact zz_iret C hr dX9_copy_20
  · refine zz_iload_n C dX9_copy_7 rfl (lv_at hl 3 rfl) ?_
    refine zz_callSi (As := [.int x3]) (rest := []) C (m_X9_isSheet l E x3  M_2) (va_cwS 1 C.1.2.2.2.2 gX9_copy_X9_isSheet rfl rfl rfl hdS_X9_isSheet ⟨Nat.le_of_ble_eq_true rfl, Nat.le_of_ble_eq_true rfl⟩) rfl hl.1 rfl (Nat.le_of_ble_eq_true rfl) dX9_copy_8 (fun r_6 M_7 => ?_)
    refine zz_if_ne (tgt := 21) C dX9_copy_11 (by decide) (fun c_8 => ?_) (fun c_8 => ?_)
    · refine zz_aload_n C dX9_copy_14 rfl (lv_at hl 0 rfl) ?_
      refine zz_ldc (v := -1000000001) C (List.mem_of_getElem? (i := 1) rfl) dX9_copy_15 ?_
      refine zz_callVi (As := [.int (-1000000001 : Int32)]) (rest := []) C (m_X9_finds l E a0 (-1000000001 : Int32) h0 M_7) (cwV 1 C.1.2.2.2.2 gX9_copy_X9_finds rfl rfl rfl hdV_X9_finds ⟨Nat.le_of_ble_eq_true rfl, Nat.le_of_ble_eq_true rfl⟩) (zz_lt h0 (by decide)) (zz_c9 h0) rfl rfl hl.1 rfl (Nat.le_of_ble_eq_true rfl) dX9_copy_17 (fun r_28 M_29 => ?_)
      exact zz_iret C hr dX9_copy_20
    · refine zz_aload_n C dX9_copy_21 rfl (lv_at hl 0 rfl) ?_
      refine zz_get C (zz_lt h0 (by decide)) (zz_c9 h0) rfl in_X9_copy_X9 13 (by decide) (List.mem_of_getElem? (i := 2) rfl) rfl dX9_copy_22 ?_
      refine zz_iload_n C dX9_copy_25 rfl (lv_at hl 1 rfl) ?_
      refine zz_iald C (zz_lt (zz_s9_13 h0) (by decide)) (zz_c15 (zz_s9_13 h0)) dX9_copy_26 ?_
      refine zz_if_eq (tgt := 39) C dX9_copy_27 (by decide) (fun c_9 => ?_) (fun c_9 => ?_)
      · refine zz_aload_n C dX9_copy_39 rfl (lv_at hl 0 rfl) ?_
        refine zz_ldcw (v := -1000000006) C (List.mem_of_getElem? (i := 3) rfl) dX9_copy_40 ?_
        refine zz_callVi (As := [.int (-1000000006 : Int32)]) (rest := []) C (m_X9_finds l E a0 (-1000000006 : Int32) h0 M_7) (cwV 1 C.1.2.2.2.2 gX9_copy_X9_finds rfl rfl rfl hdV_X9_finds ⟨Nat.le_of_ble_eq_true rfl, Nat.le_of_ble_eq_true rfl⟩) (zz_lt h0 (by decide)) (zz_c9 h0) rfl rfl hl.1 rfl (Nat.le_of_ble_eq_true rfl) dX9_copy_43 (fun r_10 M_11 => ?_)
        exact zz_iret C hr dX9_copy_46
      · refine zz_aload_n C dX9_copy_30 rfl (lv_at hl 0 rfl) ?_
        refine zz_get C (zz_lt h0 (by decide)) (zz_c9 h0) rfl in_X9_copy_X9 13 (by decide) (List.mem_of_getElem? (i := 2) rfl) rfl dX9_copy_31 ?_
        refine zz_iload_n C dX9_copy_34 rfl (lv_at hl 3 rfl) ?_
        refine zz_iald C (zz_lt (zz_s9_13 h0) (by decide)) (zz_c15 (zz_s9_13 h0)) dX9_copy_35 ?_
        refine zz_if_ne (tgt := 47) C dX9_copy_36 (by decide) (fun c_12 => ?_) (fun c_12 => ?_)
        · refine zz_aload_n C dX9_copy_39 rfl (lv_at hl 0 rfl) ?_
          refine zz_ldcw (v := -1000000006) C (List.mem_of_getElem? (i := 3) rfl) dX9_copy_40 ?_
          refine zz_callVi (As := [.int (-1000000006 : Int32)]) (rest := []) C (m_X9_finds l E a0 (-1000000006 : Int32) h0 M_7) (cwV 1 C.1.2.2.2.2 gX9_copy_X9_finds rfl rfl rfl hdV_X9_finds ⟨Nat.le_of_ble_eq_true rfl, Nat.le_of_ble_eq_true rfl⟩) (zz_lt h0 (by decide)) (zz_c9 h0) rfl rfl hl.1 rfl (Nat.le_of_ble_eq_true rfl) dX9_copy_43 (fun r_26 M_27 => ?_)
          exact zz_iret C hr dX9_copy_46
        · refine zz_aload_n C dX9_copy_47 rfl (lv_at hl 0 rfl) ?_
          refine zz_get C (zz_lt h0 (by decide)) (zz_c9 h0) rfl in_X9_copy_X9 13 (by decide) (List.mem_of_getElem? (i := 2) rfl) rfl dX9_copy_48 ?_
          refine zz_iload_n C dX9_copy_51 rfl (lv_at hl 1 rfl) ?_
          refine zz_iald C (zz_lt (zz_s9_13 h0) (by decide)) (zz_c15 (zz_s9_13 h0)) dX9_copy_52 ?_
          refine zz_aload_n C dX9_copy_53 rfl (lv_at hl 0 rfl) ?_
          refine zz_get C (zz_lt h0 (by decide)) (zz_c9 h0) rfl in_X9_copy_X9 13 (by decide) (List.mem_of_getElem? (i := 2) rfl) rfl dX9_copy_54 ?_
          refine zz_iload_n C dX9_copy_57 rfl (lv_at hl 3 rfl) ?_
          refine zz_iald C (zz_lt (zz_s9_13 h0) (by decide)) (zz_c15 (zz_s9_13 h0)) dX9_copy_58 ?_
          refine zz_icmp_eq (tgt := 69) C dX9_copy_59 (by decide) (fun c_13 => ?_) (fun c_13 => ?_)
          · refine zz_aload_n C dX9_copy_69 rfl (lv_at hl 0 rfl) ?_
            refine zz_iload_n C dX9_copy_70 rfl (lv_at hl 1 rfl) ?_
            refine zz_iload_n C dX9_copy_71 rfl (lv_at hl 2 rfl) ?_
            refine zz_iload C dX9_copy_72 (lv_at hl 5 rfl) ?_
            refine zz_callVi (As := [.int x1, .int x2, .int x5]) (rest := []) C (m_X9_isPart l E a0 x1 x2 x5 h0 M_7) (cwV 3 C.1.2.2.2.2 gX9_copy_X9_isPart rfl rfl rfl hdV_X9_isPart ⟨Nat.le_of_ble_eq_true rfl, Nat.le_of_ble_eq_true rfl⟩) (zz_lt h0 (by decide)) (zz_c9 h0) rfl rfl hl.1 rfl (Nat.le_of_ble_eq_true rfl) dX9_copy_74 (fun r_14 M_15 => ?_)
            refine zz_if_eq (tgt := 92) C dX9_copy_77 (by decide) (fun c_16 => ?_) (fun c_16 => ?_)
            · refine zz_aload_n C dX9_copy_92 rfl (lv_at hl 0 rfl) ?_
              refine zz_ldc (v := -1000000001) C (List.mem_of_getElem? (i := 1) rfl) dX9_copy_93 ?_
              refine zz_callVi (As := [.int (-1000000001 : Int32)]) (rest := []) C (m_X9_finds l E a0 (-1000000001 : Int32) h0 M_15) (cwV 1 C.1.2.2.2.2 gX9_copy_X9_finds rfl rfl rfl hdV_X9_finds ⟨Nat.le_of_ble_eq_true rfl, Nat.le_of_ble_eq_true rfl⟩) (zz_lt h0 (by decide)) (zz_c9 h0) rfl rfl hl.1 rfl (Nat.le_of_ble_eq_true rfl) dX9_copy_95 (fun r_17 M_18 => ?_)
              exact zz_iret C hr dX9_copy_98
            · refine zz_aload_n C dX9_copy_80 rfl (lv_at hl 0 rfl) ?_
              refine zz_iload_n C dX9_copy_81 rfl (lv_at hl 3 rfl) ?_
              refine zz_iload C dX9_copy_82 (lv_at hl 4 rfl) ?_
              refine zz_iload C dX9_copy_84 (lv_at hl 5 rfl) ?_
              refine zz_callVi (As := [.int x3, .int x4, .int x5]) (rest := []) C (m_X9_isPart l E a0 x3 x4 x5 h0 M_15) (cwV 3 C.1.2.2.2.2 gX9_copy_X9_isPart rfl rfl rfl hdV_X9_isPart ⟨Nat.le_of_ble_eq_true rfl, Nat.le_of_ble_eq_true rfl⟩) (zz_lt h0 (by decide)) (zz_c9 h0) rfl rfl hl.1 rfl (Nat.le_of_ble_eq_true rfl) dX9_copy_86 (fun r_19 M_20 => ?_)
              refine zz_if_ne (tgt := 99) C dX9_copy_89 (by decide) (fun c_21 => ?_) (fun c_21 => ?_)
              · refine zz_aload_n C dX9_copy_92 rfl (lv_at hl 0 rfl) ?_
                refine zz_ldc (v := -1000000001) C (List.mem_of_getElem? (i := 1) rfl) dX9_copy_93 ?_
                refine zz_callVi (As := [.int (-1000000001 : Int32)]) (rest := []) C (m_X9_finds l E a0 (-1000000001 : Int32) h0 M_20) (cwV 1 C.1.2.2.2.2 gX9_copy_X9_finds rfl rfl rfl hdV_X9_finds ⟨Nat.le_of_ble_eq_true rfl, Nat.le_of_ble_eq_true rfl⟩) (zz_lt h0 (by decide)) (zz_c9 h0) rfl rfl hl.1 rfl (Nat.le_of_ble_eq_true rfl) dX9_copy_95 (fun r_22 M_23 => ?_)
                exact zz_iret C hr dX9_copy_98
              · refine zz_iconst (v := 0) C dX9_copy_99 (by decide) ?_
                refine zz_istored (lv' := [(6, .int (0 : Int32)), (0, .ref (E.1 + a0)), (1, .int x1), (2, .int x2), (3, .int x3), (4, .int x4), (5, .int x5)]) C dX9_copy_100 hl (by decide) rfl (fun ls hl => ?_)
                exact wb_X9_copy_102 C hr  zz_fuel a0 x1 x2 x3 x4 x5 (0 : Int32) h0 M_20 ls (lv_sub hl [1, 2, 3, 4, 5, 6, 0] rfl)
          · refine zz_aload_n C dX9_copy_62 rfl (lv_at hl 0 rfl) ?_
            refine zz_ldc (v := -1000000003) C (List.mem_of_getElem? (i := 4) rfl) dX9_copy_63 ?_
            refine zz_callVi (As := [.int (-1000000003 : Int32)]) (rest := []) C (m_X9_finds l E a0 (-1000000003 : Int32) h0 M_7) (cwV 1 C.1.2.2.2.2 gX9_copy_X9_finds rfl rfl rfl hdV_X9_finds ⟨Nat.le_of_ble_eq_true rfl, Nat.le_of_ble_eq_true rfl⟩) (zz_lt h0 (by decide)) (zz_c9 h0) rfl rfl hl.1 rfl (Nat.le_of_ble_eq_true rfl) dX9_copy_65 (fun r_24 M_25 => ?_)
            exact zz_iret C hr dX9_copy_68
-- X9_lays ('X9', 'lays', '(II)I')
theorem in_X9_lays_X9 : ∀ w ∈ u_ws RX9 TX9 20, w ∈ wsX9_lays := fun _ h => List.mem_cons_of_mem _ (List.mem_append_right _ h)
def b_X9_lays_55 : Nat → Nat → Int32 → Int32 → Int32 → zz_M → Option (Int32 × zz_M)
  | 0 => fun _ _ _ _ _ => none
  | n + 1 => fun a0 x1 x2 x4 M => (if zz_in x1 4 = true then (if (zz_i M 136 (zz_n x1)) ≤ x4 then some (x4, M) else zz_bd (f_X9_many a0 x2 M) (fun r_12 M_13 => (if (40 : Int32) ≤ r_12 then some (x4, M_13) else (if zz_in (((40 : Int32) * x1) + x4) 160 = true then (if (lg_cmp (zz_j M_13 137 (zz_n (((40 : Int32) * x1) + x4))) (0 : Int64)) < 0 then some (x4, M_13) else (if zz_in (((40 : Int32) * x1) + x4) 160 = true then (if 0 ≤ (lg_cmp (zz_j M_13 137 (zz_n (((40 : Int32) * x1) + x4))) (4 : Int64)) then some (x4, M_13) else (if zz_in (((40 : Int32) * x1) + x4) 160 = true then zz_bd (f_X9_dips a0 x2 ((zz_j M_13 137 (zz_n (((40 : Int32) * x1) + x4))).toInt32) M_13) (fun _ M_17 => zz_w (x4 + (1 : Int32)) (fun x4_18 => (b_X9_lays_55 n) a0 x1 x2 x4_18 M_17)) else none)) else none)) else none)))) else none)
set_option maxRecDepth 100000 in
set_option maxHeartbeats 4000000 in
theorem wb_X9_lays_55 {p : Program} {l : Launch} {e : Env} {s : State} {m : MethodId} {args : Array Value} {below : List Frame} {meth : Method} {c : Code} {E : zz_E} (C : zz_C E RX9 cX9_lays 5 wsX9_lays p s m args meth c) (hr : meth.sig.returnType = (some .int)) : ∀ (n : Nat) (a0 : Nat) (x1 : Int32) (x2 : Int32) (x4 : Int32) (ha0 : zz_sh a0 = 9) (M : zz_M) (ls : Array Slot), lv_has ls 5 [(0, .ref (E.1 + a0)), (1, .int x1), (2, .int x2), (4, .int x4)] → zz_Z E p l e (zz_rm 5) s m args below meth c (zz_Q (zz_pi E) E below args s) (b_X9_lays_55 n a0 x1 x2 x4 M) M (F0 m 55 ls []) := by
  intro n
  induction n with
  | zero => intro a0 x1 x2 x4 ha0 M ls hl; exact zz_none
  | succ n ih =>
    intro a0 x1 x2 x4 ha0 M ls hl
    rw [b_X9_lays_55]
    refine zz_iload C dX9_lays_55 (lv_at hl 3 rfl) ?_
    refine zz_aload_n C dX9_lays_57 rfl (lv_at hl 0 rfl) ?_
    refine zz_get C (zz_lt ha0 (by decide)) (zz_c9 ha0) rfl in_X9_lays_X9 14 (by decide) (List.mem_of_getElem? (i := 4) rfl) rfl dX9_lays_58 ?_
    refine zz_iload_n C dX9_lays_61 rfl (lv_at hl 1 rfl) ?_
    refine zz_iald C (zz_lt (zz_s9_14 ha0) (by decide)) (zz_c15 (zz_s9_14 ha0)) dX9_lays_62 ?_
    refine zz_icmp_ge (tgt := 136) C dX9_lays_63 (by decide) (fun c_11 => ?_) (fun c_11 => ?_)
    · refine zz_iload C dX9_lays_136 (lv_at hl 3 rfl) ?_
      exact zz_iret C hr dX9_lays_138
    · refine zz_aload_n C dX9_lays_66 rfl (lv_at hl 0 rfl) ?_
      refine zz_iload_n C dX9_lays_67 rfl (lv_at hl 2 rfl) ?_
      refine zz_callVi (As := [.int x2]) (rest := []) C (m_X9_many l E a0 x2 ha0 M) (cwV 1 C.1.2.2.2.2 gX9_lays_X9_many rfl rfl rfl hdV_X9_many ⟨Nat.le_of_ble_eq_true rfl, Nat.le_of_ble_eq_true rfl⟩) (zz_lt ha0 (by decide)) (zz_c9 ha0) rfl rfl hl.1 rfl (Nat.le_of_ble_eq_true rfl) dX9_lays_68 (fun r_12 M_13 => ?_)
      refine zz_bipush (v := 40) C dX9_lays_71 (by decide) ?_
      refine zz_icmp_ge (tgt := 136) C dX9_lays_73 (by decide) (fun c_14 => ?_) (fun c_14 => ?_)
      · refine zz_iload C dX9_lays_136 (lv_at hl 3 rfl) ?_
        exact zz_iret C hr dX9_lays_138
      · refine zz_aload_n C dX9_lays_76 rfl (lv_at hl 0 rfl) ?_
        refine zz_get C (zz_lt ha0 (by decide)) (zz_c9 ha0) rfl in_X9_lays_X9 15 (by decide) (List.mem_of_getElem? (i := 5) rfl) rfl dX9_lays_77 ?_
        refine zz_bipush (v := 40) C dX9_lays_80 (by decide) ?_
        refine zz_iload_n C dX9_lays_82 rfl (lv_at hl 1 rfl) ?_
        refine zz_imul C dX9_lays_83 ?_
        refine zz_iload C dX9_lays_84 (lv_at hl 3 rfl) ?_
        refine zz_iadd C dX9_lays_86 ?_
        refine zz_lald C (zz_lt (zz_s9_15 ha0) (by decide)) (zz_c17 (zz_s9_15 ha0)) dX9_lays_87 ?_
        refine zz_lconst (v := 0) C dX9_lays_88 rfl ?_
        refine zz_lcmp C dX9_lays_89 ?_
        refine zz_if_lt (tgt := 136) C dX9_lays_90 (by decide) (fun c_15 => ?_) (fun c_15 => ?_)
        · refine zz_iload C dX9_lays_136 (lv_at hl 3 rfl) ?_
          exact zz_iret C hr dX9_lays_138
        · refine zz_aload_n C dX9_lays_93 rfl (lv_at hl 0 rfl) ?_
          refine zz_get C (zz_lt ha0 (by decide)) (zz_c9 ha0) rfl in_X9_lays_X9 15 (by decide) (List.mem_of_getElem? (i := 5) rfl) rfl dX9_lays_94 ?_
          refine zz_bipush (v := 40) C dX9_lays_97 (by decide) ?_
          refine zz_iload_n C dX9_lays_99 rfl (lv_at hl 1 rfl) ?_
          refine zz_imul C dX9_lays_100 ?_
          refine zz_iload C dX9_lays_101 (lv_at hl 3 rfl) ?_
          refine zz_iadd C dX9_lays_103 ?_
          refine zz_lald C (zz_lt (zz_s9_15 ha0) (by decide)) (zz_c17 (zz_s9_15 ha0)) dX9_lays_104 ?_
          refine zz_ldc2 (v := 4) C (List.mem_of_getElem? (i := 6) rfl) dX9_lays_105 ?_
          refine zz_lcmp C dX9_lays_108 ?_
          refine zz_if_ge (tgt := 136) C dX9_lays_109 (by decide) (fun c_16 => ?_) (fun c_16 => ?_)
          · refine zz_iload C dX9_lays_136 (lv_at hl 3 rfl) ?_
            exact zz_iret C hr dX9_lays_138
          · refine zz_aload_n C dX9_lays_112 rfl (lv_at hl 0 rfl) ?_
            refine zz_iload_n C dX9_lays_113 rfl (lv_at hl 2 rfl) ?_
            refine zz_aload_n C dX9_lays_114 rfl (lv_at hl 0 rfl) ?_
            refine zz_get C (zz_lt ha0 (by decide)) (zz_c9 ha0) rfl in_X9_lays_X9 15 (by decide) (List.mem_of_getElem? (i := 5) rfl) rfl dX9_lays_115 ?_
            refine zz_bipush (v := 40) C dX9_lays_118 (by decide) ?_
            refine zz_iload_n C dX9_lays_120 rfl (lv_at hl 1 rfl) ?_
            refine zz_imul C dX9_lays_121 ?_
            refine zz_iload C dX9_lays_122 (lv_at hl 3 rfl) ?_
            refine zz_iadd C dX9_lays_124 ?_
            refine zz_lald C (zz_lt (zz_s9_15 ha0) (by decide)) (zz_c17 (zz_s9_15 ha0)) dX9_lays_125 ?_
            refine zz_l2i C dX9_lays_126 ?_
            refine zz_callVv (As := [.int x2, .int ((zz_j M_13 137 (zz_n (((40 : Int32) * x1) + x4))).toInt32)]) (rest := []) C (m_X9_dips l E a0 x2 ((zz_j M_13 137 (zz_n (((40 : Int32) * x1) + x4))).toInt32) ha0 M_13) (cwV 2 C.1.2.2.2.2 gX9_lays_X9_dips rfl rfl rfl hdV_X9_dips ⟨Nat.le_of_ble_eq_true rfl, Nat.le_of_ble_eq_true rfl⟩) (zz_lt ha0 (by decide)) (zz_c9 ha0) rfl rfl hl.1 rfl (Nat.le_of_ble_eq_true rfl) dX9_lays_127 (fun _ M_17 => ?_)
            refine zz_iinc (k9 := 3) (d := 1) C (fun x4_18 => [(4, .int x4_18), (0, .ref (E.1 + a0)), (1, .int x1), (2, .int x2)]) dX9_lays_130 hl rfl (by decide) (by decide) (fun _ => rfl) (fun x4_18 ls hl => ?_)
            refine zz_goto (tgt := 55) C dX9_lays_133 (by decide) ?_
            exact ih a0 x1 x2 x4_18 ha0 M_17 ls (lv_sub hl [1, 2, 3, 0] rfl)
def b_X9_lays_41 (a0 : Nat) (x1 : Int32) (x2 : Int32) (st0 : Int32) (M : zz_M) : Option (Int32 × zz_M) := (if st0 = 0 then b_X9_lays_55  zz_fuel a0 x1 x2 (0 : Int32) M else zz_bd (f_X9_finds a0 st0 M) (fun r_9 M_10 => some (r_9, M_10)))
set_option maxRecDepth 100000 in
set_option maxHeartbeats 4000000 in
theorem wb_X9_lays_41 {p : Program} {l : Launch} {e : Env} {s : State} {m : MethodId} {args : Array Value} {below : List Frame} {meth : Method} {c : Code} {E : zz_E} (C : zz_C E RX9 cX9_lays 5 wsX9_lays p s m args meth c) (hr : meth.sig.returnType = (some .int)) : ∀ (a0 : Nat) (x1 : Int32) (x2 : Int32) (st0 : Int32) (ha0 : zz_sh a0 = 9) (M : zz_M) (ls : Array Slot), lv_has ls 5 [(0, .ref (E.1 + a0)), (1, .int x1), (2, .int x2)] → zz_Z E p l e (zz_rm 5) s m args below meth c (zz_Q (zz_pi E) E below args s) (b_X9_lays_41 a0 x1 x2 st0 M) M (F0 m 41 ls [.int st0]) := by
  intro a0 x1 x2 st0 ha0 M ls hl
  unfold b_X9_lays_41
  refine zz_istored_n (lv' := [(3, .int st0), (0, .ref (E.1 + a0)), (1, .int x1), (2, .int x2)]) C dX9_lays_41 rfl hl (by decide) rfl (fun ls hl => ?_)
  refine zz_iload_n C dX9_lays_42 rfl (lv_at hl 0 rfl) ?_
  refine zz_if_eq (tgt := 52) C dX9_lays_43 (by decide) (fun c_8 => ?_) (fun c_8 => ?_)
  · refine zz_iconst (v := 0) C dX9_lays_52 (by decide) ?_
    refine zz_istored (lv' := [(4, .int (0 : Int32)), (3, .int st0), (0, .ref (E.1 + a0)), (1, .int x1), (2, .int x2)]) C dX9_lays_53 hl (by decide) rfl (fun ls hl => ?_)
    exact wb_X9_lays_55 C hr  zz_fuel a0 x1 x2 (0 : Int32) ha0 M ls (lv_sub hl [2, 3, 4, 0] rfl)
  · refine zz_aload_n C dX9_lays_46 rfl (lv_at hl 1 rfl) ?_
    refine zz_iload_n C dX9_lays_47 rfl (lv_at hl 0 rfl) ?_
    refine zz_callVi (As := [.int st0]) (rest := []) C (m_X9_finds l E a0 st0 ha0 M) (cwV 1 C.1.2.2.2.2 gX9_lays_X9_finds rfl rfl rfl hdV_X9_finds ⟨Nat.le_of_ble_eq_true rfl, Nat.le_of_ble_eq_true rfl⟩) (zz_lt ha0 (by decide)) (zz_c9 ha0) rfl rfl hl.1 rfl (Nat.le_of_ble_eq_true rfl) dX9_lays_48 (fun r_9 M_10 => ?_)
    exact zz_iret C hr dX9_lays_51
def f_X9_lays (a0 : Nat) (x1 : Int32) (x2 : Int32) (M : zz_M) : Option (Int32 × zz_M) := zz_bd (f_X9_isSheet x1 M) (fun r_1 M_2 => (if r_1 = 0 then b_X9_lays_41  a0 x1 x2 (-1000000001 : Int32) M_2 else (if zz_in x1 4 = true then (if (zz_i M_2 135 (zz_n x1)) = 0 then b_X9_lays_41  a0 x1 x2 (-1000000006 : Int32) M_2 else zz_bd (f_X9_isCandle a0 x2 M_2) (fun r_5 M_6 => (if r_5 = 0 then b_X9_lays_41  a0 x1 x2 (-1000000001 : Int32) M_6 else b_X9_lays_41  a0 x1 x2 (0 : Int32) M_6))) else none)))
set_option maxRecDepth 100000 in
set_option maxHeartbeats 4000000 in
theorem m_X9_lays (l : Launch) (E : zz_E) (a0 : Nat) (x1 : Int32) (x2 : Int32) (h0 : zz_sh a0 = 9) (M : zz_M) : zz_Met (zz_pi E) l yX9_lays wsX9_lays 5 E [.ref (E.1 + a0), .int x1, .int x2] M (f_X9_lays a0 x1 x2 M) := by
  refine zz_met (cc := cX9_lays) (nL := 5) (ret := (some .int)) (by decide) rfl (Nat.le_of_ble_eq_true rfl) ?_
  intro p e s m below meth c C hr ls hl
  have C : zz_C E RX9 cX9_lays 5 wsX9_lays p s m [.ref (E.1 + a0), .int x1, .int x2].toArray meth c := C
  have hl : lv_has ls 5 [(0, .ref (E.1 + a0)), (1, .int x1), (2, .int x2)] := hl
  unfold f_X9_lays
  refine zz_iload_n C dX9_lays_0 rfl (lv_at hl 1 rfl) ?_
  refine zz_callSi (As := [.int x1]) (rest := []) C (m_X9_isSheet l E x1  M) (va_cwS 1 C.1.2.2.2.2 gX9_lays_X9_isSheet rfl rfl rfl hdS_X9_isSheet ⟨Nat.le_of_ble_eq_true rfl, Nat.le_of_ble_eq_true rfl⟩) rfl hl.1 rfl (Nat.le_of_ble_eq_true rfl) dX9_lays_1 (fun r_1 M_2 => ?_)
  refine zz_if_ne (tgt := 12) C dX9_lays_4 (by decide) (fun c_3 => ?_) (fun c_3 => ?_)
  · refine zz_ldc (v := -1000000001) C (List.mem_of_getElem? (i := 1) rfl) dX9_lays_7 ?_
    refine zz_goto (tgt := 41) C dX9_lays_9 (by decide) ?_
    exact wb_X9_lays_41 C hr  a0 x1 x2 (-1000000001 : Int32) h0 M_2 ls (lv_sub hl [0, 1, 2] rfl)
  · refine zz_aload_n C dX9_lays_12 rfl (lv_at hl 0 rfl) ?_
    refine zz_get C (zz_lt h0 (by decide)) (zz_c9 h0) rfl in_X9_lays_X9 13 (by decide) (List.mem_of_getElem? (i := 2) rfl) rfl dX9_lays_13 ?_
    refine zz_iload_n C dX9_lays_16 rfl (lv_at hl 1 rfl) ?_
    refine zz_iald C (zz_lt (zz_s9_13 h0) (by decide)) (zz_c15 (zz_s9_13 h0)) dX9_lays_17 ?_
    refine zz_if_ne (tgt := 27) C dX9_lays_18 (by decide) (fun c_4 => ?_) (fun c_4 => ?_)
    · refine zz_ldcw (v := -1000000006) C (List.mem_of_getElem? (i := 3) rfl) dX9_lays_21 ?_
      refine zz_goto (tgt := 41) C dX9_lays_24 (by decide) ?_
      exact wb_X9_lays_41 C hr  a0 x1 x2 (-1000000006 : Int32) h0 M_2 ls (lv_sub hl [0, 1, 2] rfl)
    · refine zz_aload_n C dX9_lays_27 rfl (lv_at hl 0 rfl) ?_
      refine zz_iload_n C dX9_lays_28 rfl (lv_at hl 2 rfl) ?_
      refine zz_callVi (As := [.int x2]) (rest := []) C (m_X9_isCandle l E a0 x2 h0 M_2) (cwV 1 C.1.2.2.2.2 gX9_lays_X9_isCandle rfl rfl rfl hdV_X9_isCandle ⟨Nat.le_of_ble_eq_true rfl, Nat.le_of_ble_eq_true rfl⟩) (zz_lt h0 (by decide)) (zz_c9 h0) rfl rfl hl.1 rfl (Nat.le_of_ble_eq_true rfl) dX9_lays_29 (fun r_5 M_6 => ?_)
      refine zz_if_ne (tgt := 40) C dX9_lays_32 (by decide) (fun c_7 => ?_) (fun c_7 => ?_)
      · refine zz_ldc (v := -1000000001) C (List.mem_of_getElem? (i := 1) rfl) dX9_lays_35 ?_
        refine zz_goto (tgt := 41) C dX9_lays_37 (by decide) ?_
        exact wb_X9_lays_41 C hr  a0 x1 x2 (-1000000001 : Int32) h0 M_6 ls (lv_sub hl [0, 1, 2] rfl)
      · refine zz_iconst (v := 0) C dX9_lays_40 (by decide) ?_
        exact wb_X9_lays_41 C hr  a0 x1 x2 (0 : Int32) h0 M_6 ls (lv_sub hl [0, 1, 2] rfl)
-- X9_show ('X9', 'show', '(II)I')
theorem in_X9_show_X9 : ∀ w ∈ u_ws RX9 TX9 20, w ∈ wsX9_show := fun _ h => List.mem_cons_of_mem _ (List.mem_append_right _ h)
def b_X9_show_55 : Nat → Nat → Int32 → Int32 → Int32 → zz_M → Option (Int32 × zz_M)
  | 0 => fun _ _ _ _ _ => none
  | n + 1 => fun a0 x1 x2 x4 M => (if zz_in x1 4 = true then (if (zz_i M 136 (zz_n x1)) ≤ x4 then some (x4, M) else zz_bd (f_X9_many a0 x2 M) (fun r_12 M_13 => (if r_12 ≤ x4 then some (x4, M_13) else (if zz_in x1 4 = true then zz_bd (f_X9_layerOf a0 x2 x4 M_13) (fun r_15 M_16 => zz_bd (f_X9_narrow (zz_i M_13 135 (zz_n x1)) (r_15.toInt64) M_16) (fun r_17 M_18 => (if zz_in (((40 : Int32) * x1) + x4) 160 = true then zz_w (zz_sj M_18 137 (zz_n (((40 : Int32) * x1) + x4)) r_17) (fun M_19 => zz_w (x4 + (1 : Int32)) (fun x4_20 => (b_X9_show_55 n) a0 x1 x2 x4_20 M_19)) else none))) else none)))) else none)
set_option maxRecDepth 100000 in
set_option maxHeartbeats 4000000 in
theorem wb_X9_show_55 {p : Program} {l : Launch} {e : Env} {s : State} {m : MethodId} {args : Array Value} {below : List Frame} {meth : Method} {c : Code} {E : zz_E} (C : zz_C E RX9 cX9_show 5 wsX9_show p s m args meth c) (hr : meth.sig.returnType = (some .int)) : ∀ (n : Nat) (a0 : Nat) (x1 : Int32) (x2 : Int32) (x4 : Int32) (ha0 : zz_sh a0 = 9) (M : zz_M) (ls : Array Slot), lv_has ls 5 [(0, .ref (E.1 + a0)), (1, .int x1), (2, .int x2), (4, .int x4)] → zz_Z E p l e (zz_rm 3) s m args below meth c (zz_Q (zz_pi E) E below args s) (b_X9_show_55 n a0 x1 x2 x4 M) M (F0 m 55 ls []) := by
  intro n
  induction n with
  | zero => intro a0 x1 x2 x4 ha0 M ls hl; exact zz_none
  | succ n ih =>
    intro a0 x1 x2 x4 ha0 M ls hl
    rw [b_X9_show_55]
    refine zz_iload C dX9_show_55 (lv_at hl 3 rfl) ?_
    refine zz_aload_n C dX9_show_57 rfl (lv_at hl 0 rfl) ?_
    refine zz_get C (zz_lt ha0 (by decide)) (zz_c9 ha0) rfl in_X9_show_X9 14 (by decide) (List.mem_of_getElem? (i := 4) rfl) rfl dX9_show_58 ?_
    refine zz_iload_n C dX9_show_61 rfl (lv_at hl 1 rfl) ?_
    refine zz_iald C (zz_lt (zz_s9_14 ha0) (by decide)) (zz_c15 (zz_s9_14 ha0)) dX9_show_62 ?_
    refine zz_icmp_ge (tgt := 111) C dX9_show_63 (by decide) (fun c_11 => ?_) (fun c_11 => ?_)
    · refine zz_iload C dX9_show_111 (lv_at hl 3 rfl) ?_
      exact zz_iret C hr dX9_show_113
    · refine zz_iload C dX9_show_66 (lv_at hl 3 rfl) ?_
      refine zz_aload_n C dX9_show_68 rfl (lv_at hl 0 rfl) ?_
      refine zz_iload_n C dX9_show_69 rfl (lv_at hl 2 rfl) ?_
      refine zz_callVi (As := [.int x2]) (rest := [.int x4]) C (m_X9_many l E a0 x2 ha0 M) (cwV 1 C.1.2.2.2.2 gX9_show_X9_many rfl rfl rfl hdV_X9_many ⟨Nat.le_of_ble_eq_true rfl, Nat.le_of_ble_eq_true rfl⟩) (zz_lt ha0 (by decide)) (zz_c9 ha0) rfl rfl hl.1 rfl (Nat.le_of_ble_eq_true rfl) dX9_show_70 (fun r_12 M_13 => ?_)
      refine zz_icmp_ge (tgt := 111) C dX9_show_73 (by decide) (fun c_14 => ?_) (fun c_14 => ?_)
      · refine zz_iload C dX9_show_111 (lv_at hl 3 rfl) ?_
        exact zz_iret C hr dX9_show_113
      · refine zz_aload_n C dX9_show_76 rfl (lv_at hl 0 rfl) ?_
        refine zz_get C (zz_lt ha0 (by decide)) (zz_c9 ha0) rfl in_X9_show_X9 15 (by decide) (List.mem_of_getElem? (i := 5) rfl) rfl dX9_show_77 ?_
        refine zz_bipush (v := 40) C dX9_show_80 (by decide) ?_
        refine zz_iload_n C dX9_show_82 rfl (lv_at hl 1 rfl) ?_
        refine zz_imul C dX9_show_83 ?_
        refine zz_iload C dX9_show_84 (lv_at hl 3 rfl) ?_
        refine zz_iadd C dX9_show_86 ?_
        refine zz_aload_n C dX9_show_87 rfl (lv_at hl 0 rfl) ?_
        refine zz_get C (zz_lt ha0 (by decide)) (zz_c9 ha0) rfl in_X9_show_X9 13 (by decide) (List.mem_of_getElem? (i := 2) rfl) rfl dX9_show_88 ?_
        refine zz_iload_n C dX9_show_91 rfl (lv_at hl 1 rfl) ?_
        refine zz_iald C (zz_lt (zz_s9_13 ha0) (by decide)) (zz_c15 (zz_s9_13 ha0)) dX9_show_92 ?_
        refine zz_aload_n C dX9_show_93 rfl (lv_at hl 0 rfl) ?_
        refine zz_iload_n C dX9_show_94 rfl (lv_at hl 2 rfl) ?_
        refine zz_iload C dX9_show_95 (lv_at hl 3 rfl) ?_
        refine zz_callVi (As := [.int x2, .int x4]) (rest := [.int (zz_i M_13 135 (zz_n x1)), .int (((40 : Int32) * x1) + x4), .ref (E.1 + 137)]) C (m_X9_layerOf l E a0 x2 x4 ha0 M_13) (cwV 2 C.1.2.2.2.2 gX9_show_X9_layerOf rfl rfl rfl hdV_X9_layerOf ⟨Nat.le_of_ble_eq_true rfl, Nat.le_of_ble_eq_true rfl⟩) (zz_lt ha0 (by decide)) (zz_c9 ha0) rfl rfl hl.1 rfl (Nat.le_of_ble_eq_true rfl) dX9_show_97 (fun r_15 M_16 => ?_)
        refine zz_i2l C dX9_show_100 ?_
        refine zz_callSl (As := [.int (zz_i M_13 135 (zz_n x1)), .long (r_15.toInt64)]) (rest := [.int (((40 : Int32) * x1) + x4), .ref (E.1 + 137)]) C (m_X9_narrow l E (zz_i M_13 135 (zz_n x1)) (r_15.toInt64)  M_16) (va_cwS 2 C.1.2.2.2.2 gX9_show_X9_narrow rfl rfl rfl hdS_X9_narrow ⟨Nat.le_of_ble_eq_true rfl, Nat.le_of_ble_eq_true rfl⟩) rfl hl.1 rfl (Nat.le_of_ble_eq_true rfl) dX9_show_101 (fun r_17 M_18 => ?_)
        refine zz_last C (zz_lt (zz_s9_15 ha0) (by decide)) (fun _ => zz_c17 (zz_s9_15 ha0)) dX9_show_104 (fun M_19 => ?_)
        refine zz_iinc (k9 := 3) (d := 1) C (fun x4_20 => [(4, .int x4_20), (0, .ref (E.1 + a0)), (1, .int x1), (2, .int x2)]) dX9_show_105 hl rfl (by decide) (by decide) (fun _ => rfl) (fun x4_20 ls hl => ?_)
        refine zz_goto (tgt := 55) C dX9_show_108 (by decide) ?_
        exact ih a0 x1 x2 x4_20 ha0 M_19 ls (lv_sub hl [1, 2, 3, 0] rfl)
def b_X9_show_41 (a0 : Nat) (x1 : Int32) (x2 : Int32) (st0 : Int32) (M : zz_M) : Option (Int32 × zz_M) := (if st0 = 0 then b_X9_show_55  zz_fuel a0 x1 x2 (0 : Int32) M else zz_bd (f_X9_finds a0 st0 M) (fun r_9 M_10 => some (r_9, M_10)))
set_option maxRecDepth 100000 in
set_option maxHeartbeats 4000000 in
theorem wb_X9_show_41 {p : Program} {l : Launch} {e : Env} {s : State} {m : MethodId} {args : Array Value} {below : List Frame} {meth : Method} {c : Code} {E : zz_E} (C : zz_C E RX9 cX9_show 5 wsX9_show p s m args meth c) (hr : meth.sig.returnType = (some .int)) : ∀ (a0 : Nat) (x1 : Int32) (x2 : Int32) (st0 : Int32) (ha0 : zz_sh a0 = 9) (M : zz_M) (ls : Array Slot), lv_has ls 5 [(0, .ref (E.1 + a0)), (1, .int x1), (2, .int x2)] → zz_Z E p l e (zz_rm 3) s m args below meth c (zz_Q (zz_pi E) E below args s) (b_X9_show_41 a0 x1 x2 st0 M) M (F0 m 41 ls [.int st0]) := by
  intro a0 x1 x2 st0 ha0 M ls hl
  unfold b_X9_show_41
  refine zz_istored_n (lv' := [(3, .int st0), (0, .ref (E.1 + a0)), (1, .int x1), (2, .int x2)]) C dX9_show_41 rfl hl (by decide) rfl (fun ls hl => ?_)
  refine zz_iload_n C dX9_show_42 rfl (lv_at hl 0 rfl) ?_
  refine zz_if_eq (tgt := 52) C dX9_show_43 (by decide) (fun c_8 => ?_) (fun c_8 => ?_)
  · refine zz_iconst (v := 0) C dX9_show_52 (by decide) ?_
    refine zz_istored (lv' := [(4, .int (0 : Int32)), (3, .int st0), (0, .ref (E.1 + a0)), (1, .int x1), (2, .int x2)]) C dX9_show_53 hl (by decide) rfl (fun ls hl => ?_)
    exact wb_X9_show_55 C hr  zz_fuel a0 x1 x2 (0 : Int32) ha0 M ls (lv_sub hl [2, 3, 4, 0] rfl)
  · refine zz_aload_n C dX9_show_46 rfl (lv_at hl 1 rfl) ?_
    refine zz_iload_n C dX9_show_47 rfl (lv_at hl 0 rfl) ?_
    refine zz_callVi (As := [.int st0]) (rest := []) C (m_X9_finds l E a0 st0 ha0 M) (cwV 1 C.1.2.2.2.2 gX9_show_X9_finds rfl rfl rfl hdV_X9_finds ⟨Nat.le_of_ble_eq_true rfl, Nat.le_of_ble_eq_true rfl⟩) (zz_lt ha0 (by decide)) (zz_c9 ha0) rfl rfl hl.1 rfl (Nat.le_of_ble_eq_true rfl) dX9_show_48 (fun r_9 M_10 => ?_)
    exact zz_iret C hr dX9_show_51
def f_X9_show (a0 : Nat) (x1 : Int32) (x2 : Int32) (M : zz_M) : Option (Int32 × zz_M) := zz_bd (f_X9_isSheet x1 M) (fun r_1 M_2 => (if r_1 = 0 then b_X9_show_41  a0 x1 x2 (-1000000001 : Int32) M_2 else (if zz_in x1 4 = true then (if (zz_i M_2 135 (zz_n x1)) = 0 then b_X9_show_41  a0 x1 x2 (-1000000006 : Int32) M_2 else zz_bd (f_X9_isCandle a0 x2 M_2) (fun r_5 M_6 => (if r_5 = 0 then b_X9_show_41  a0 x1 x2 (-1000000001 : Int32) M_6 else b_X9_show_41  a0 x1 x2 (0 : Int32) M_6))) else none)))
set_option maxRecDepth 100000 in
set_option maxHeartbeats 4000000 in
theorem m_X9_show (l : Launch) (E : zz_E) (a0 : Nat) (x1 : Int32) (x2 : Int32) (h0 : zz_sh a0 = 9) (M : zz_M) : zz_Met (zz_pi E) l yX9_show wsX9_show 3 E [.ref (E.1 + a0), .int x1, .int x2] M (f_X9_show a0 x1 x2 M) := by
  refine zz_met (cc := cX9_show) (nL := 5) (ret := (some .int)) (by decide) rfl (Nat.le_of_ble_eq_true rfl) ?_
  intro p e s m below meth c C hr ls hl
  have C : zz_C E RX9 cX9_show 5 wsX9_show p s m [.ref (E.1 + a0), .int x1, .int x2].toArray meth c := C
  have hl : lv_has ls 5 [(0, .ref (E.1 + a0)), (1, .int x1), (2, .int x2)] := hl
  unfold f_X9_show
  refine zz_iload_n C dX9_show_0 rfl (lv_at hl 1 rfl) ?_
  refine zz_callSi (As := [.int x1]) (rest := []) C (m_X9_isSheet l E x1  M) (va_cwS 1 C.1.2.2.2.2 gX9_show_X9_isSheet rfl rfl rfl hdS_X9_isSheet ⟨Nat.le_of_ble_eq_true rfl, Nat.le_of_ble_eq_true rfl⟩) rfl hl.1 rfl (Nat.le_of_ble_eq_true rfl) dX9_show_1 (fun r_1 M_2 => ?_)
  refine zz_if_ne (tgt := 12) C dX9_show_4 (by decide) (fun c_3 => ?_) (fun c_3 => ?_)
  · refine zz_ldc (v := -1000000001) C (List.mem_of_getElem? (i := 1) rfl) dX9_show_7 ?_
    refine zz_goto (tgt := 41) C dX9_show_9 (by decide) ?_
    exact wb_X9_show_41 C hr  a0 x1 x2 (-1000000001 : Int32) h0 M_2 ls (lv_sub hl [0, 1, 2] rfl)
  · refine zz_aload_n C dX9_show_12 rfl (lv_at hl 0 rfl) ?_
    refine zz_get C (zz_lt h0 (by decide)) (zz_c9 h0) rfl in_X9_show_X9 13 (by decide) (List.mem_of_getElem? (i := 2) rfl) rfl dX9_show_13 ?_
    refine zz_iload_n C dX9_show_16 rfl (lv_at hl 1 rfl) ?_
    refine zz_iald C (zz_lt (zz_s9_13 h0) (by decide)) (zz_c15 (zz_s9_13 h0)) dX9_show_17 ?_
    refine zz_if_ne (tgt := 27) C dX9_show_18 (by decide) (fun c_4 => ?_) (fun c_4 => ?_)
    · refine zz_ldcw (v := -1000000006) C (List.mem_of_getElem? (i := 3) rfl) dX9_show_21 ?_
      refine zz_goto (tgt := 41) C dX9_show_24 (by decide) ?_
      exact wb_X9_show_41 C hr  a0 x1 x2 (-1000000006 : Int32) h0 M_2 ls (lv_sub hl [0, 1, 2] rfl)
    · refine zz_aload_n C dX9_show_27 rfl (lv_at hl 0 rfl) ?_
      refine zz_iload_n C dX9_show_28 rfl (lv_at hl 2 rfl) ?_
      refine zz_callVi (As := [.int x2]) (rest := []) C (m_X9_isCandle l E a0 x2 h0 M_2) (cwV 1 C.1.2.2.2.2 gX9_show_X9_isCandle rfl rfl rfl hdV_X9_isCandle ⟨Nat.le_of_ble_eq_true rfl, Nat.le_of_ble_eq_true rfl⟩) (zz_lt h0 (by decide)) (zz_c9 h0) rfl rfl hl.1 rfl (Nat.le_of_ble_eq_true rfl) dX9_show_29 (fun r_5 M_6 => ?_)
      refine zz_if_ne (tgt := 40) C dX9_show_32 (by decide) (fun c_7 => ?_) (fun c_7 => ?_)
      · refine zz_ldc (v := -1000000001) C (List.mem_of_getElem? (i := 1) rfl) dX9_show_35 ?_
        refine zz_goto (tgt := 41) C dX9_show_37 (by decide) ?_
        exact wb_X9_show_41 C hr  a0 x1 x2 (-1000000001 : Int32) h0 M_6 ls (lv_sub hl [0, 1, 2] rfl)
      · refine zz_iconst (v := 0) C dX9_show_40 (by decide) ?_
        exact wb_X9_show_41 C hr  a0 x1 x2 (0 : Int32) h0 M_6 ls (lv_sub hl [0, 1, 2] rfl)
-- X9_isShown ('X9', 'isShown', '(II)Z')
theorem in_X9_isShown_X9 : ∀ w ∈ u_ws RX9 TX9 20, w ∈ wsX9_isShown := fun _ h => List.mem_cons_of_mem _ (List.mem_append_right _ h)
def b_X9_isShown_66 (k23 : Nat → Int32 → Int32 → Int32 → Int32 → zz_M → Option (Int32 × zz_M)) (a0 : Nat) (x1 : Int32) (x2 : Int32) (x4 : Int32) (st0 : Int32) (M : zz_M) : Option (Int32 × zz_M) := zz_w (x4 + (1 : Int32)) (fun x4_11 => k23 a0 x1 x2 st0 x4_11 M)
set_option maxRecDepth 100000 in
set_option maxHeartbeats 4000000 in
theorem wb_X9_isShown_66 {p : Program} {l : Launch} {e : Env} {s : State} {m : MethodId} {args : Array Value} {below : List Frame} {meth : Method} {c : Code} {E : zz_E} (C : zz_C E RX9 cX9_isShown 5 wsX9_isShown p s m args meth c) (hr : meth.sig.returnType = (some .boolean)) {k23 : Nat → Int32 → Int32 → Int32 → Int32 → zz_M → Option (Int32 × zz_M)} (hk23 : ∀ (a0 : Nat) (x1 : Int32) (x2 : Int32) (x3 : Int32) (x4 : Int32) (ha0 : zz_sh a0 = 9) (M : zz_M) (ls : Array Slot), lv_has ls 5 [(0, .ref (E.1 + a0)), (1, .int x1), (2, .int x2), (3, .int x3), (4, .int x4)] → zz_Z E p l e (zz_rm 3) s m args below meth c (zz_Q (zz_pi E) E below args s) (k23 a0 x1 x2 x3 x4 M) M (F0 m 23 ls [])) : ∀ (a0 : Nat) (x1 : Int32) (x2 : Int32) (x4 : Int32) (st0 : Int32) (ha0 : zz_sh a0 = 9) (M : zz_M) (ls : Array Slot), lv_has ls 5 [(0, .ref (E.1 + a0)), (1, .int x1), (2, .int x2), (4, .int x4)] → zz_Z E p l e (zz_rm 3) s m args below meth c (zz_Q (zz_pi E) E below args s) (b_X9_isShown_66 k23 a0 x1 x2 x4 st0 M) M (F0 m 66 ls [.int st0]) := by
  intro a0 x1 x2 x4 st0 ha0 M ls hl
  unfold b_X9_isShown_66
  refine zz_istored_n (lv' := [(3, .int st0), (0, .ref (E.1 + a0)), (1, .int x1), (2, .int x2), (4, .int x4)]) C dX9_isShown_66 rfl hl (by decide) rfl (fun ls hl => ?_)
  refine zz_iinc (k9 := 4) (d := 1) C (fun x4_11 => [(4, .int x4_11), (3, .int st0), (0, .ref (E.1 + a0)), (1, .int x1), (2, .int x2)]) dX9_isShown_67 hl rfl (by decide) (by decide) (fun _ => rfl) (fun x4_11 ls hl => ?_)
  refine zz_goto (tgt := 23) C dX9_isShown_70 (by decide) ?_
  exact hk23 a0 x1 x2 st0 x4_11 ha0 M ls (lv_sub hl [2, 3, 4, 1, 0] rfl)
def b_X9_isShown_23 : Nat → Nat → Int32 → Int32 → Int32 → Int32 → zz_M → Option (Int32 × zz_M)
  | 0 => fun _ _ _ _ _ _ => none
  | n + 1 => fun a0 x1 x2 x3 x4 M => (if x3 = 0 then (if zz_bit x3 = true then some (x3, M) else none) else zz_bd (f_X9_many a0 x2 M) (fun r_5 M_6 => (if r_5 ≤ x4 then (if zz_bit x3 = true then some (x3, M_6) else none) else (if zz_in (((40 : Int32) * x1) + x4) 160 = true then zz_bd (f_X9_layerOf a0 x2 x4 M_6) (fun r_8 M_9 => (if (lg_cmp (zz_j M_6 137 (zz_n (((40 : Int32) * x1) + x4))) (r_8.toInt64)) = 0 then b_X9_isShown_66 (b_X9_isShown_23 n) a0 x1 x2 x4 (1 : Int32) M_9 else b_X9_isShown_66 (b_X9_isShown_23 n) a0 x1 x2 x4 (0 : Int32) M_9)) else none))))
set_option maxRecDepth 100000 in
set_option maxHeartbeats 4000000 in
theorem wb_X9_isShown_23 {p : Program} {l : Launch} {e : Env} {s : State} {m : MethodId} {args : Array Value} {below : List Frame} {meth : Method} {c : Code} {E : zz_E} (C : zz_C E RX9 cX9_isShown 5 wsX9_isShown p s m args meth c) (hr : meth.sig.returnType = (some .boolean)) : ∀ (n : Nat) (a0 : Nat) (x1 : Int32) (x2 : Int32) (x3 : Int32) (x4 : Int32) (ha0 : zz_sh a0 = 9) (M : zz_M) (ls : Array Slot), lv_has ls 5 [(0, .ref (E.1 + a0)), (1, .int x1), (2, .int x2), (3, .int x3), (4, .int x4)] → zz_Z E p l e (zz_rm 3) s m args below meth c (zz_Q (zz_pi E) E below args s) (b_X9_isShown_23 n a0 x1 x2 x3 x4 M) M (F0 m 23 ls []) := by
  intro n
  induction n with
  | zero => intro a0 x1 x2 x3 x4 ha0 M ls hl; exact zz_none
  | succ n ih =>
    intro a0 x1 x2 x3 x4 ha0 M ls hl
    rw [b_X9_isShown_23]
    refine zz_iload_n C dX9_isShown_23 rfl (lv_at hl 3 rfl) ?_
    refine zz_if_eq (tgt := 73) C dX9_isShown_24 (by decide) (fun c_4 => ?_) (fun c_4 => ?_)
    · refine zz_iload_n C dX9_isShown_73 rfl (lv_at hl 3 rfl) ?_
      exact zz_zret C hr dX9_isShown_74
    · refine zz_iload C dX9_isShown_27 (lv_at hl 4 rfl) ?_
      refine zz_aload_n C dX9_isShown_29 rfl (lv_at hl 0 rfl) ?_
      refine zz_iload_n C dX9_isShown_30 rfl (lv_at hl 2 rfl) ?_
      refine zz_callVi (As := [.int x2]) (rest := [.int x4]) C (m_X9_many l E a0 x2 ha0 M) (cwV 1 C.1.2.2.2.2 gX9_isShown_X9_many rfl rfl rfl hdV_X9_many ⟨Nat.le_of_ble_eq_true rfl, Nat.le_of_ble_eq_true rfl⟩) (zz_lt ha0 (by decide)) (zz_c9 ha0) rfl rfl hl.1 rfl (Nat.le_of_ble_eq_true rfl) dX9_isShown_31 (fun r_5 M_6 => ?_)
      refine zz_icmp_ge (tgt := 73) C dX9_isShown_34 (by decide) (fun c_7 => ?_) (fun c_7 => ?_)
      · refine zz_iload_n C dX9_isShown_73 rfl (lv_at hl 3 rfl) ?_
        exact zz_zret C hr dX9_isShown_74
      · refine zz_aload_n C dX9_isShown_37 rfl (lv_at hl 0 rfl) ?_
        refine zz_get C (zz_lt ha0 (by decide)) (zz_c9 ha0) rfl in_X9_isShown_X9 15 (by decide) (List.mem_of_getElem? (i := 2) rfl) rfl dX9_isShown_38 ?_
        refine zz_bipush (v := 40) C dX9_isShown_41 (by decide) ?_
        refine zz_iload_n C dX9_isShown_43 rfl (lv_at hl 1 rfl) ?_
        refine zz_imul C dX9_isShown_44 ?_
        refine zz_iload C dX9_isShown_45 (lv_at hl 4 rfl) ?_
        refine zz_iadd C dX9_isShown_47 ?_
        refine zz_lald C (zz_lt (zz_s9_15 ha0) (by decide)) (zz_c17 (zz_s9_15 ha0)) dX9_isShown_48 ?_
        refine zz_aload_n C dX9_isShown_49 rfl (lv_at hl 0 rfl) ?_
        refine zz_iload_n C dX9_isShown_50 rfl (lv_at hl 2 rfl) ?_
        refine zz_iload C dX9_isShown_51 (lv_at hl 4 rfl) ?_
        refine zz_callVi (As := [.int x2, .int x4]) (rest := [.long (zz_j M_6 137 (zz_n (((40 : Int32) * x1) + x4)))]) C (m_X9_layerOf l E a0 x2 x4 ha0 M_6) (cwV 2 C.1.2.2.2.2 gX9_isShown_X9_layerOf rfl rfl rfl hdV_X9_layerOf ⟨Nat.le_of_ble_eq_true rfl, Nat.le_of_ble_eq_true rfl⟩) (zz_lt ha0 (by decide)) (zz_c9 ha0) rfl rfl hl.1 rfl (Nat.le_of_ble_eq_true rfl) dX9_isShown_53 (fun r_8 M_9 => ?_)
        refine zz_i2l C dX9_isShown_56 ?_
        refine zz_lcmp C dX9_isShown_57 ?_
        refine zz_if_ne (tgt := 65) C dX9_isShown_58 (by decide) (fun c_10 => ?_) (fun c_10 => ?_)
        · refine zz_iconst (v := 1) C dX9_isShown_61 (by decide) ?_
          refine zz_goto (tgt := 66) C dX9_isShown_62 (by decide) ?_
          exact wb_X9_isShown_66 C hr ih a0 x1 x2 x4 (1 : Int32) ha0 M_9 ls (lv_sub hl [0, 1, 2, 4] rfl)
        · refine zz_iconst (v := 0) C dX9_isShown_65 (by decide) ?_
          exact wb_X9_isShown_66 C hr ih a0 x1 x2 x4 (0 : Int32) ha0 M_9 ls (lv_sub hl [0, 1, 2, 4] rfl)
def b_X9_isShown_19 (a0 : Nat) (x1 : Int32) (x2 : Int32) (st0 : Int32) (M : zz_M) : Option (Int32 × zz_M) := b_X9_isShown_23  zz_fuel a0 x1 x2 st0 (0 : Int32) M
set_option maxRecDepth 100000 in
set_option maxHeartbeats 4000000 in
theorem wb_X9_isShown_19 {p : Program} {l : Launch} {e : Env} {s : State} {m : MethodId} {args : Array Value} {below : List Frame} {meth : Method} {c : Code} {E : zz_E} (C : zz_C E RX9 cX9_isShown 5 wsX9_isShown p s m args meth c) (hr : meth.sig.returnType = (some .boolean)) : ∀ (a0 : Nat) (x1 : Int32) (x2 : Int32) (st0 : Int32) (ha0 : zz_sh a0 = 9) (M : zz_M) (ls : Array Slot), lv_has ls 5 [(0, .ref (E.1 + a0)), (1, .int x1), (2, .int x2)] → zz_Z E p l e (zz_rm 3) s m args below meth c (zz_Q (zz_pi E) E below args s) (b_X9_isShown_19 a0 x1 x2 st0 M) M (F0 m 19 ls [.int st0]) := by
  intro a0 x1 x2 st0 ha0 M ls hl
  unfold b_X9_isShown_19
  refine zz_istored_n (lv' := [(3, .int st0), (0, .ref (E.1 + a0)), (1, .int x1), (2, .int x2)]) C dX9_isShown_19 rfl hl (by decide) rfl (fun ls hl => ?_)
  refine zz_iconst (v := 0) C dX9_isShown_20 (by decide) ?_
  refine zz_istored (lv' := [(4, .int (0 : Int32)), (3, .int st0), (0, .ref (E.1 + a0)), (1, .int x1), (2, .int x2)]) C dX9_isShown_21 hl (by decide) rfl (fun ls hl => ?_)
  exact wb_X9_isShown_23 C hr  zz_fuel a0 x1 x2 st0 (0 : Int32) ha0 M ls (lv_sub hl [2, 3, 4, 1, 0] rfl)
def f_X9_isShown (a0 : Nat) (x1 : Int32) (x2 : Int32) (M : zz_M) : Option (Int32 × zz_M) := zz_bd (f_X9_many a0 x2 M) (fun r_1 M_2 => (if zz_in x1 4 = true then (if r_1 = (zz_i M_2 136 (zz_n x1)) then b_X9_isShown_19  a0 x1 x2 (1 : Int32) M_2 else b_X9_isShown_19  a0 x1 x2 (0 : Int32) M_2) else none))
set_option maxRecDepth 100000 in
set_option maxHeartbeats 4000000 in
theorem m_X9_isShown (l : Launch) (E : zz_E) (a0 : Nat) (x1 : Int32) (x2 : Int32) (h0 : zz_sh a0 = 9) (M : zz_M) : zz_Met (zz_pi E) l yX9_isShown wsX9_isShown 3 E [.ref (E.1 + a0), .int x1, .int x2] M (f_X9_isShown a0 x1 x2 M) := by
  refine zz_met (cc := cX9_isShown) (nL := 5) (ret := (some .boolean)) (by decide) rfl (Nat.le_of_ble_eq_true rfl) ?_
  intro p e s m below meth c C hr ls hl
  have C : zz_C E RX9 cX9_isShown 5 wsX9_isShown p s m [.ref (E.1 + a0), .int x1, .int x2].toArray meth c := C
  have hl : lv_has ls 5 [(0, .ref (E.1 + a0)), (1, .int x1), (2, .int x2)] := hl
  unfold f_X9_isShown
  refine zz_aload_n C dX9_isShown_0 rfl (lv_at hl 0 rfl) ?_
  refine zz_iload_n C dX9_isShown_1 rfl (lv_at hl 2 rfl) ?_
  refine zz_callVi (As := [.int x2]) (rest := []) C (m_X9_many l E a0 x2 h0 M) (cwV 1 C.1.2.2.2.2 gX9_isShown_X9_many rfl rfl rfl hdV_X9_many ⟨Nat.le_of_ble_eq_true rfl, Nat.le_of_ble_eq_true rfl⟩) (zz_lt h0 (by decide)) (zz_c9 h0) rfl rfl hl.1 rfl (Nat.le_of_ble_eq_true rfl) dX9_isShown_2 (fun r_1 M_2 => ?_)
  refine zz_aload_n C dX9_isShown_5 rfl (lv_at hl 0 rfl) ?_
  refine zz_get C (zz_lt h0 (by decide)) (zz_c9 h0) rfl in_X9_isShown_X9 14 (by decide) (List.mem_of_getElem? (i := 1) rfl) rfl dX9_isShown_6 ?_
  refine zz_iload_n C dX9_isShown_9 rfl (lv_at hl 1 rfl) ?_
  refine zz_iald C (zz_lt (zz_s9_14 h0) (by decide)) (zz_c15 (zz_s9_14 h0)) dX9_isShown_10 ?_
  refine zz_icmp_ne (tgt := 18) C dX9_isShown_11 (by decide) (fun c_3 => ?_) (fun c_3 => ?_)
  · refine zz_iconst (v := 1) C dX9_isShown_14 (by decide) ?_
    refine zz_goto (tgt := 19) C dX9_isShown_15 (by decide) ?_
    exact wb_X9_isShown_19 C hr  a0 x1 x2 (1 : Int32) h0 M_2 ls (lv_sub hl [0, 1, 2] rfl)
  · refine zz_iconst (v := 0) C dX9_isShown_18 (by decide) ?_
    exact wb_X9_isShown_19 C hr  a0 x1 x2 (0 : Int32) h0 M_2 ls (lv_sub hl [0, 1, 2] rfl)
-- X9_read ('X9', 'read', '(II)I')
theorem in_X9_read_X9 : ∀ w ∈ u_ws RX9 TX9 20, w ∈ wsX9_read := fun _ h => List.mem_cons_of_mem _ (List.mem_append_right _ h)
theorem hdV_X9_isShown : yX9_isShown.cls = RX9 ∧ yX9_isShown.cls ≠ "java/lang/invoke/MethodHandle" ∧ yX9_isShown.cls ≠ "java/lang/invoke/VarHandle" ∧ (parseMethodDescriptor yX9_isShown.desc).map (fun d => d.parameters.length) = some 2 := by decide +kernel
def b_X9_read_171 (a0 : Nat) (x4 : Int32) (M : zz_M) : Option (Int32 × zz_M) := zz_bd (f_X9_moveAll a0 (0 : Int32) 132 M) (fun _ M_26 => (if 0 ≤ x4 then some (x4, M_26) else zz_bd (f_X9_finds a0 (-1000000004 : Int32) M_26) (fun r_28 M_29 => some (r_28, M_29))))
set_option maxRecDepth 100000 in
set_option maxHeartbeats 4000000 in
theorem wb_X9_read_171 {p : Program} {l : Launch} {e : Env} {s : State} {m : MethodId} {args : Array Value} {below : List Frame} {meth : Method} {c : Code} {E : zz_E} (C : zz_C E RX9 cX9_read 6 wsX9_read p s m args meth c) (hr : meth.sig.returnType = (some .int)) : ∀ (a0 : Nat) (x4 : Int32) (ha0 : zz_sh a0 = 9) (M : zz_M) (ls : Array Slot), lv_has ls 6 [(0, .ref (E.1 + a0)), (4, .int x4)] → zz_Z E p l e (zz_rm 6) s m args below meth c (zz_Q (zz_pi E) E below args s) (b_X9_read_171 a0 x4 M) M (F0 m 171 ls []) := by
  intro a0 x4 ha0 M ls hl
  unfold b_X9_read_171
  refine zz_aload_n C dX9_read_171 rfl (lv_at hl 0 rfl) ?_
  refine zz_iconst (v := 0) C dX9_read_172 (by decide) ?_
  refine zz_aload_n C dX9_read_173 rfl (lv_at hl 0 rfl) ?_
  refine zz_get C (zz_lt ha0 (by decide)) (zz_c9 ha0) rfl in_X9_read_X9 2 (by decide) (List.mem_of_getElem? (i := 6) rfl) rfl dX9_read_174 ?_
  refine zz_callVv (As := [.int (0 : Int32), .ref (E.1 + 132)]) (rest := []) C (m_X9_moveAll l E a0 (0 : Int32) 132 ha0 (zz_s9_2 ha0) M) (cwV 2 C.1.2.2.2.2 gX9_read_X9_moveAll rfl rfl rfl hdV_X9_moveAll ⟨Nat.le_of_ble_eq_true rfl, Nat.le_of_ble_eq_true rfl⟩) (zz_lt ha0 (by decide)) (zz_c9 ha0) rfl rfl hl.1 rfl (Nat.le_of_ble_eq_true rfl) dX9_read_177 (fun _ M_26 => ?_)
  refine zz_iload C dX9_read_180 (lv_at hl 1 rfl) ?_
  refine zz_if_ge (tgt := 194) C dX9_read_182 (by decide) (fun c_27 => ?_) (fun c_27 => ?_)
  · refine zz_iload C dX9_read_194 (lv_at hl 1 rfl) ?_
    exact zz_iret C hr dX9_read_196
  · refine zz_aload_n C dX9_read_185 rfl (lv_at hl 0 rfl) ?_
    refine zz_ldc (v := -1000000004) C (List.mem_of_getElem? (i := 8) rfl) dX9_read_186 ?_
    refine zz_callVi (As := [.int (-1000000004 : Int32)]) (rest := []) C (m_X9_finds l E a0 (-1000000004 : Int32) ha0 M_26) (cwV 1 C.1.2.2.2.2 gX9_read_X9_finds rfl rfl rfl hdV_X9_finds ⟨Nat.le_of_ble_eq_true rfl, Nat.le_of_ble_eq_true rfl⟩) (zz_lt ha0 (by decide)) (zz_c9 ha0) rfl rfl hl.1 rfl (Nat.le_of_ble_eq_true rfl) dX9_read_188 (fun r_28 M_29 => ?_)
    refine zz_goto (tgt := 196) C dX9_read_191 (by decide) ?_
    exact zz_iret C hr dX9_read_196
def b_X9_read_158 (k110 : Nat → Int32 → Int32 → Int32 → zz_M → Option (Int32 × zz_M)) (a0 : Nat) (x1 : Int32) (x5 : Int32) (st0 : Int32) (M : zz_M) : Option (Int32 × zz_M) := zz_bd (f_X9_putsBack a0 (0 : Int32) M) (fun _ M_30 => zz_w (x5 + (1 : Int32)) (fun x5_31 => k110 a0 x1 st0 x5_31 M_30))
set_option maxRecDepth 100000 in
set_option maxHeartbeats 4000000 in
theorem wb_X9_read_158 {p : Program} {l : Launch} {e : Env} {s : State} {m : MethodId} {args : Array Value} {below : List Frame} {meth : Method} {c : Code} {E : zz_E} (C : zz_C E RX9 cX9_read 6 wsX9_read p s m args meth c) (hr : meth.sig.returnType = (some .int)) {k110 : Nat → Int32 → Int32 → Int32 → zz_M → Option (Int32 × zz_M)} (hk110 : ∀ (a0 : Nat) (x1 : Int32) (x4 : Int32) (x5 : Int32) (ha0 : zz_sh a0 = 9) (M : zz_M) (ls : Array Slot), lv_has ls 6 [(0, .ref (E.1 + a0)), (1, .int x1), (4, .int x4), (5, .int x5)] → zz_Z E p l e (zz_rm 6) s m args below meth c (zz_Q (zz_pi E) E below args s) (k110 a0 x1 x4 x5 M) M (F0 m 110 ls [])) : ∀ (a0 : Nat) (x1 : Int32) (x5 : Int32) (st0 : Int32) (ha0 : zz_sh a0 = 9) (M : zz_M) (ls : Array Slot), lv_has ls 6 [(0, .ref (E.1 + a0)), (1, .int x1), (5, .int x5)] → zz_Z E p l e (zz_rm 6) s m args below meth c (zz_Q (zz_pi E) E below args s) (b_X9_read_158 k110 a0 x1 x5 st0 M) M (F0 m 158 ls [.int st0]) := by
  intro a0 x1 x5 st0 ha0 M ls hl
  unfold b_X9_read_158
  refine zz_istored (lv' := [(4, .int st0), (0, .ref (E.1 + a0)), (1, .int x1), (5, .int x5)]) C dX9_read_158 hl (by decide) rfl (fun ls hl => ?_)
  refine zz_aload_n C dX9_read_160 rfl (lv_at hl 1 rfl) ?_
  refine zz_iconst (v := 0) C dX9_read_161 (by decide) ?_
  refine zz_callVv (As := [.int (0 : Int32)]) (rest := []) C (m_X9_putsBack l E a0 (0 : Int32) ha0 M) (cwV 1 C.1.2.2.2.2 gX9_read_X9_putsBack rfl rfl rfl hdV_X9_putsBack ⟨Nat.le_of_ble_eq_true rfl, Nat.le_of_ble_eq_true rfl⟩) (zz_lt ha0 (by decide)) (zz_c9 ha0) rfl rfl hl.1 rfl (Nat.le_of_ble_eq_true rfl) dX9_read_162 (fun _ M_30 => ?_)
  refine zz_iinc (k9 := 3) (d := 1) C (fun x5_31 => [(5, .int x5_31), (4, .int st0), (0, .ref (E.1 + a0)), (1, .int x1)]) dX9_read_165 hl rfl (by decide) (by decide) (fun _ => rfl) (fun x5_31 ls hl => ?_)
  refine zz_goto (tgt := 110) C dX9_read_168 (by decide) ?_
  exact hk110 a0 x1 st0 x5_31 ha0 M_30 ls (lv_sub hl [2, 3, 1, 0] rfl)
def b_X9_read_110 : Nat → Nat → Int32 → Int32 → Int32 → zz_M → Option (Int32 × zz_M)
  | 0 => fun _ _ _ _ _ => none
  | n + 1 => fun a0 x1 x4 x5 M => (if zz_in x1 4 = true then (if ((1 : Int32) <<< (((2 : Int32) * (zz_i M 136 (zz_n x1))) &&& (31 : Int32))) ≤ x5 then b_X9_read_171  a0 x4 M else (if 0 ≤ x4 then b_X9_read_171  a0 x4 M else (if zz_in x1 4 = true then zz_bd (f_X9_dipRow a0 (0 : Int32) x5 (zz_i M 136 (zz_n x1)) M) (fun _ M_22 => zz_bd (f_X9_isShown a0 x1 (0 : Int32) M_22) (fun r_23 M_24 => (if r_23 = 0 then b_X9_read_158 (b_X9_read_110 n) a0 x1 x5 (-1 : Int32) M_24 else b_X9_read_158 (b_X9_read_110 n) a0 x1 x5 x5 M_24))) else none))) else none)
set_option maxRecDepth 100000 in
set_option maxHeartbeats 4000000 in
theorem wb_X9_read_110 {p : Program} {l : Launch} {e : Env} {s : State} {m : MethodId} {args : Array Value} {below : List Frame} {meth : Method} {c : Code} {E : zz_E} (C : zz_C E RX9 cX9_read 6 wsX9_read p s m args meth c) (hr : meth.sig.returnType = (some .int)) : ∀ (n : Nat) (a0 : Nat) (x1 : Int32) (x4 : Int32) (x5 : Int32) (ha0 : zz_sh a0 = 9) (M : zz_M) (ls : Array Slot), lv_has ls 6 [(0, .ref (E.1 + a0)), (1, .int x1), (4, .int x4), (5, .int x5)] → zz_Z E p l e (zz_rm 6) s m args below meth c (zz_Q (zz_pi E) E below args s) (b_X9_read_110 n a0 x1 x4 x5 M) M (F0 m 110 ls []) := by
  intro n
  induction n with
  | zero => intro a0 x1 x4 x5 ha0 M ls hl; exact zz_none
  | succ n ih =>
    intro a0 x1 x4 x5 ha0 M ls hl
    rw [b_X9_read_110]
    refine zz_iload C dX9_read_110 (lv_at hl 3 rfl) ?_
    refine zz_iconst (v := 1) C dX9_read_112 (by decide) ?_
    refine zz_iconst (v := 2) C dX9_read_113 (by decide) ?_
    refine zz_aload_n C dX9_read_114 rfl (lv_at hl 0 rfl) ?_
    refine zz_get C (zz_lt ha0 (by decide)) (zz_c9 ha0) rfl in_X9_read_X9 14 (by decide) (List.mem_of_getElem? (i := 4) rfl) rfl dX9_read_115 ?_
    refine zz_iload_n C dX9_read_118 rfl (lv_at hl 1 rfl) ?_
    refine zz_iald C (zz_lt (zz_s9_14 ha0) (by decide)) (zz_c15 (zz_s9_14 ha0)) dX9_read_119 ?_
    refine zz_imul C dX9_read_120 ?_
    refine zz_ishl C dX9_read_121 ?_
    refine zz_icmp_ge (tgt := 171) C dX9_read_122 (by decide) (fun c_20 => ?_) (fun c_20 => ?_)
    · exact wb_X9_read_171 C hr  a0 x4 ha0 M ls (lv_sub hl [0, 2] rfl)
    · refine zz_iload C dX9_read_125 (lv_at hl 2 rfl) ?_
      refine zz_if_ge (tgt := 171) C dX9_read_127 (by decide) (fun c_21 => ?_) (fun c_21 => ?_)
      · exact wb_X9_read_171 C hr  a0 x4 ha0 M ls (lv_sub hl [0, 2] rfl)
      · refine zz_aload_n C dX9_read_130 rfl (lv_at hl 0 rfl) ?_
        refine zz_iconst (v := 0) C dX9_read_131 (by decide) ?_
        refine zz_iload C dX9_read_132 (lv_at hl 3 rfl) ?_
        refine zz_aload_n C dX9_read_134 rfl (lv_at hl 0 rfl) ?_
        refine zz_get C (zz_lt ha0 (by decide)) (zz_c9 ha0) rfl in_X9_read_X9 14 (by decide) (List.mem_of_getElem? (i := 4) rfl) rfl dX9_read_135 ?_
        refine zz_iload_n C dX9_read_138 rfl (lv_at hl 1 rfl) ?_
        refine zz_iald C (zz_lt (zz_s9_14 ha0) (by decide)) (zz_c15 (zz_s9_14 ha0)) dX9_read_139 ?_
        refine zz_callVv (As := [.int (0 : Int32), .int x5, .int (zz_i M 136 (zz_n x1))]) (rest := []) C (m_X9_dipRow l E a0 (0 : Int32) x5 (zz_i M 136 (zz_n x1)) ha0 M) (cwV 3 C.1.2.2.2.2 gX9_read_X9_dipRow rfl rfl rfl hdV_X9_dipRow ⟨Nat.le_of_ble_eq_true rfl, Nat.le_of_ble_eq_true rfl⟩) (zz_lt ha0 (by decide)) (zz_c9 ha0) rfl rfl hl.1 rfl (Nat.le_of_ble_eq_true rfl) dX9_read_140 (fun _ M_22 => ?_)
        refine zz_aload_n C dX9_read_143 rfl (lv_at hl 0 rfl) ?_
        refine zz_iload_n C dX9_read_144 rfl (lv_at hl 1 rfl) ?_
        refine zz_iconst (v := 0) C dX9_read_145 (by decide) ?_
        refine zz_callVi (As := [.int x1, .int (0 : Int32)]) (rest := []) C (m_X9_isShown l E a0 x1 (0 : Int32) ha0 M_22) (cwV 2 C.1.2.2.2.2 gX9_read_X9_isShown rfl rfl rfl hdV_X9_isShown ⟨Nat.le_of_ble_eq_true rfl, Nat.le_of_ble_eq_true rfl⟩) (zz_lt ha0 (by decide)) (zz_c9 ha0) rfl rfl hl.1 rfl (Nat.le_of_ble_eq_true rfl) dX9_read_146 (fun r_23 M_24 => ?_)
        refine zz_if_eq (tgt := 157) C dX9_read_149 (by decide) (fun c_25 => ?_) (fun c_25 => ?_)
        · refine zz_iconst (v := -1) C dX9_read_157 (by decide) ?_
          exact wb_X9_read_158 C hr ih a0 x1 x5 (-1 : Int32) ha0 M_24 ls (lv_sub hl [0, 1, 3] rfl)
        · refine zz_iload C dX9_read_152 (lv_at hl 3 rfl) ?_
          refine zz_goto (tgt := 158) C dX9_read_154 (by decide) ?_
          exact wb_X9_read_158 C hr ih a0 x1 x5 x5 ha0 M_24 ls (lv_sub hl [0, 1, 3] rfl)
def b_X9_read_57 (a0 : Nat) (x1 : Int32) (x2 : Int32) (st0 : Int32) (M : zz_M) : Option (Int32 × zz_M) := (if st0 = 0 then zz_bd (f_X9_moveAll a0 (1 : Int32) 132 M) (fun _ M_10 => zz_bd (f_X9_at (0 : Int32) (0 : Int32) M_10) (fun r_11 M_12 => (if zz_in r_11 440 = true then zz_w (zz_si M_12 130 (zz_n r_11) x2) (fun M_13 => zz_bd (f_X9_at (0 : Int32) (1 : Int32) M_13) (fun r_14 M_15 => (if zz_in r_14 440 = true then zz_w (zz_si M_15 130 (zz_n r_14) (0 : Int32)) (fun M_16 => zz_bd (f_X9_keeps a0 (0 : Int32) M_16) (fun _ M_17 => b_X9_read_110  zz_fuel a0 x1 (-1 : Int32) (0 : Int32) M_17)) else none))) else none))) else zz_bd (f_X9_finds a0 st0 M) (fun r_18 M_19 => some (r_18, M_19)))
set_option maxRecDepth 100000 in
set_option maxHeartbeats 4000000 in
theorem wb_X9_read_57 {p : Program} {l : Launch} {e : Env} {s : State} {m : MethodId} {args : Array Value} {below : List Frame} {meth : Method} {c : Code} {E : zz_E} (C : zz_C E RX9 cX9_read 6 wsX9_read p s m args meth c) (hr : meth.sig.returnType = (some .int)) : ∀ (a0 : Nat) (x1 : Int32) (x2 : Int32) (st0 : Int32) (ha0 : zz_sh a0 = 9) (M : zz_M) (ls : Array Slot), lv_has ls 6 [(0, .ref (E.1 + a0)), (1, .int x1), (2, .int x2)] → zz_Z E p l e (zz_rm 6) s m args below meth c (zz_Q (zz_pi E) E below args s) (b_X9_read_57 a0 x1 x2 st0 M) M (F0 m 57 ls [.int st0]) := by
  intro a0 x1 x2 st0 ha0 M ls hl
  unfold b_X9_read_57
  refine zz_istored_n (lv' := [(3, .int st0), (0, .ref (E.1 + a0)), (1, .int x1), (2, .int x2)]) C dX9_read_57 rfl hl (by decide) rfl (fun ls hl => ?_)
  refine zz_iload_n C dX9_read_58 rfl (lv_at hl 0 rfl) ?_
  refine zz_if_eq (tgt := 68) C dX9_read_59 (by decide) (fun c_9 => ?_) (fun c_9 => ?_)
  · refine zz_aload_n C dX9_read_68 rfl (lv_at hl 1 rfl) ?_
    refine zz_iconst (v := 1) C dX9_read_69 (by decide) ?_
    refine zz_aload_n C dX9_read_70 rfl (lv_at hl 1 rfl) ?_
    refine zz_get C (zz_lt ha0 (by decide)) (zz_c9 ha0) rfl in_X9_read_X9 2 (by decide) (List.mem_of_getElem? (i := 6) rfl) rfl dX9_read_71 ?_
    refine zz_callVv (As := [.int (1 : Int32), .ref (E.1 + 132)]) (rest := []) C (m_X9_moveAll l E a0 (1 : Int32) 132 ha0 (zz_s9_2 ha0) M) (cwV 2 C.1.2.2.2.2 gX9_read_X9_moveAll rfl rfl rfl hdV_X9_moveAll ⟨Nat.le_of_ble_eq_true rfl, Nat.le_of_ble_eq_true rfl⟩) (zz_lt ha0 (by decide)) (zz_c9 ha0) rfl rfl hl.1 rfl (Nat.le_of_ble_eq_true rfl) dX9_read_74 (fun _ M_10 => ?_)
    refine zz_aload_n C dX9_read_77 rfl (lv_at hl 1 rfl) ?_
    refine zz_get C (zz_lt ha0 (by decide)) (zz_c9 ha0) rfl in_X9_read_X9 0 (by decide) (List.mem_of_getElem? (i := 7) rfl) rfl dX9_read_78 ?_
    refine zz_iconst (v := 0) C dX9_read_81 (by decide) ?_
    refine zz_iconst (v := 0) C dX9_read_82 (by decide) ?_
    refine zz_callSi (As := [.int (0 : Int32), .int (0 : Int32)]) (rest := [.ref (E.1 + 130)]) C (m_X9_at l E (0 : Int32) (0 : Int32)  M_10) (va_cwS 2 C.1.2.2.2.2 gX9_read_X9_at rfl rfl rfl hdS_X9_at ⟨Nat.le_of_ble_eq_true rfl, Nat.le_of_ble_eq_true rfl⟩) rfl hl.1 rfl (Nat.le_of_ble_eq_true rfl) dX9_read_83 (fun r_11 M_12 => ?_)
    refine zz_iload_n C dX9_read_86 rfl (lv_at hl 3 rfl) ?_
    refine zz_iast C (zz_lt (zz_s9_0 ha0) (by decide)) (fun _ => zz_c13 (zz_s9_0 ha0)) dX9_read_87 (fun M_13 => ?_)
    refine zz_aload_n C dX9_read_88 rfl (lv_at hl 1 rfl) ?_
    refine zz_get C (zz_lt ha0 (by decide)) (zz_c9 ha0) rfl in_X9_read_X9 0 (by decide) (List.mem_of_getElem? (i := 7) rfl) rfl dX9_read_89 ?_
    refine zz_iconst (v := 0) C dX9_read_92 (by decide) ?_
    refine zz_iconst (v := 1) C dX9_read_93 (by decide) ?_
    refine zz_callSi (As := [.int (0 : Int32), .int (1 : Int32)]) (rest := [.ref (E.1 + 130)]) C (m_X9_at l E (0 : Int32) (1 : Int32)  M_13) (va_cwS 2 C.1.2.2.2.2 gX9_read_X9_at rfl rfl rfl hdS_X9_at ⟨Nat.le_of_ble_eq_true rfl, Nat.le_of_ble_eq_true rfl⟩) rfl hl.1 rfl (Nat.le_of_ble_eq_true rfl) dX9_read_94 (fun r_14 M_15 => ?_)
    refine zz_iconst (v := 0) C dX9_read_97 (by decide) ?_
    refine zz_iast C (zz_lt (zz_s9_0 ha0) (by decide)) (fun _ => zz_c13 (zz_s9_0 ha0)) dX9_read_98 (fun M_16 => ?_)
    refine zz_aload_n C dX9_read_99 rfl (lv_at hl 1 rfl) ?_
    refine zz_iconst (v := 0) C dX9_read_100 (by decide) ?_
    refine zz_callVv (As := [.int (0 : Int32)]) (rest := []) C (m_X9_keeps l E a0 (0 : Int32) ha0 M_16) (cwV 1 C.1.2.2.2.2 gX9_read_X9_keeps rfl rfl rfl hdV_X9_keeps ⟨Nat.le_of_ble_eq_true rfl, Nat.le_of_ble_eq_true rfl⟩) (zz_lt ha0 (by decide)) (zz_c9 ha0) rfl rfl hl.1 rfl (Nat.le_of_ble_eq_true rfl) dX9_read_101 (fun _ M_17 => ?_)
    refine zz_iconst (v := -1) C dX9_read_104 (by decide) ?_
    refine zz_istored (lv' := [(4, .int (-1 : Int32)), (3, .int st0), (0, .ref (E.1 + a0)), (1, .int x1), (2, .int x2)]) C dX9_read_105 hl (by decide) rfl (fun ls hl => ?_)
    refine zz_iconst (v := 0) C dX9_read_107 (by decide) ?_
    refine zz_istored (lv' := [(5, .int (0 : Int32)), (4, .int (-1 : Int32)), (3, .int st0), (0, .ref (E.1 + a0)), (1, .int x1), (2, .int x2)]) C dX9_read_108 hl (by decide) rfl (fun ls hl => ?_)
    exact wb_X9_read_110 C hr  zz_fuel a0 x1 (-1 : Int32) (0 : Int32) ha0 M_17 ls (lv_sub hl [3, 4, 1, 0] rfl)
  · refine zz_aload_n C dX9_read_62 rfl (lv_at hl 1 rfl) ?_
    refine zz_iload_n C dX9_read_63 rfl (lv_at hl 0 rfl) ?_
    refine zz_callVi (As := [.int st0]) (rest := []) C (m_X9_finds l E a0 st0 ha0 M) (cwV 1 C.1.2.2.2.2 gX9_read_X9_finds rfl rfl rfl hdV_X9_finds ⟨Nat.le_of_ble_eq_true rfl, Nat.le_of_ble_eq_true rfl⟩) (zz_lt ha0 (by decide)) (zz_c9 ha0) rfl rfl hl.1 rfl (Nat.le_of_ble_eq_true rfl) dX9_read_64 (fun r_18 M_19 => ?_)
    exact zz_iret C hr dX9_read_67
def f_X9_read (a0 : Nat) (x1 : Int32) (x2 : Int32) (M : zz_M) : Option (Int32 × zz_M) := zz_bd (f_X9_isSheet x1 M) (fun r_1 M_2 => (if r_1 = 0 then b_X9_read_57  a0 x1 x2 (-1000000001 : Int32) M_2 else (if zz_in x1 4 = true then (if (zz_i M_2 135 (zz_n x1)) = 0 then b_X9_read_57  a0 x1 x2 (-1000000006 : Int32) M_2 else zz_bd (f_X9_isKind x2 M_2) (fun r_5 M_6 => (if r_5 = 0 then b_X9_read_57  a0 x1 x2 (-1000000001 : Int32) M_6 else (if zz_in x1 4 = true then (if (zz_i M_6 136 (zz_n x1)) ≤ (6 : Int32) then b_X9_read_57  a0 x1 x2 (0 : Int32) M_6 else b_X9_read_57  a0 x1 x2 (-1000000007 : Int32) M_6) else none)))) else none)))
set_option maxRecDepth 100000 in
set_option maxHeartbeats 4000000 in
theorem m_X9_read (l : Launch) (E : zz_E) (a0 : Nat) (x1 : Int32) (x2 : Int32) (h0 : zz_sh a0 = 9) (M : zz_M) : zz_Met (zz_pi E) l yX9_read wsX9_read 6 E [.ref (E.1 + a0), .int x1, .int x2] M (f_X9_read a0 x1 x2 M) := by
  refine zz_met (cc := cX9_read) (nL := 6) (ret := (some .int)) (by decide) rfl (Nat.le_of_ble_eq_true rfl) ?_
  intro p e s m below meth c C hr ls hl
  have C : zz_C E RX9 cX9_read 6 wsX9_read p s m [.ref (E.1 + a0), .int x1, .int x2].toArray meth c := C
  have hl : lv_has ls 6 [(0, .ref (E.1 + a0)), (1, .int x1), (2, .int x2)] := hl
  unfold f_X9_read
  refine zz_iload_n C dX9_read_0 rfl (lv_at hl 1 rfl) ?_
  refine zz_callSi (As := [.int x1]) (rest := []) C (m_X9_isSheet l E x1  M) (va_cwS 1 C.1.2.2.2.2 gX9_read_X9_isSheet rfl rfl rfl hdS_X9_isSheet ⟨Nat.le_of_ble_eq_true rfl, Nat.le_of_ble_eq_true rfl⟩) rfl hl.1 rfl (Nat.le_of_ble_eq_true rfl) dX9_read_1 (fun r_1 M_2 => ?_)
  refine zz_if_ne (tgt := 12) C dX9_read_4 (by decide) (fun c_3 => ?_) (fun c_3 => ?_)
  · refine zz_ldc (v := -1000000001) C (List.mem_of_getElem? (i := 1) rfl) dX9_read_7 ?_
    refine zz_goto (tgt := 57) C dX9_read_9 (by decide) ?_
    exact wb_X9_read_57 C hr  a0 x1 x2 (-1000000001 : Int32) h0 M_2 ls (lv_sub hl [0, 1, 2] rfl)
  · refine zz_aload_n C dX9_read_12 rfl (lv_at hl 0 rfl) ?_
    refine zz_get C (zz_lt h0 (by decide)) (zz_c9 h0) rfl in_X9_read_X9 13 (by decide) (List.mem_of_getElem? (i := 2) rfl) rfl dX9_read_13 ?_
    refine zz_iload_n C dX9_read_16 rfl (lv_at hl 1 rfl) ?_
    refine zz_iald C (zz_lt (zz_s9_13 h0) (by decide)) (zz_c15 (zz_s9_13 h0)) dX9_read_17 ?_
    refine zz_if_ne (tgt := 27) C dX9_read_18 (by decide) (fun c_4 => ?_) (fun c_4 => ?_)
    · refine zz_ldcw (v := -1000000006) C (List.mem_of_getElem? (i := 3) rfl) dX9_read_21 ?_
      refine zz_goto (tgt := 57) C dX9_read_24 (by decide) ?_
      exact wb_X9_read_57 C hr  a0 x1 x2 (-1000000006 : Int32) h0 M_2 ls (lv_sub hl [0, 1, 2] rfl)
    · refine zz_iload_n C dX9_read_27 rfl (lv_at hl 2 rfl) ?_
      refine zz_callSi (As := [.int x2]) (rest := []) C (m_X9_isKind l E x2  M_2) (va_cwS 1 C.1.2.2.2.2 gX9_read_X9_isKind rfl rfl rfl hdS_X9_isKind ⟨Nat.le_of_ble_eq_true rfl, Nat.le_of_ble_eq_true rfl⟩) rfl hl.1 rfl (Nat.le_of_ble_eq_true rfl) dX9_read_28 (fun r_5 M_6 => ?_)
      refine zz_if_ne (tgt := 39) C dX9_read_31 (by decide) (fun c_7 => ?_) (fun c_7 => ?_)
      · refine zz_ldc (v := -1000000001) C (List.mem_of_getElem? (i := 1) rfl) dX9_read_34 ?_
        refine zz_goto (tgt := 57) C dX9_read_36 (by decide) ?_
        exact wb_X9_read_57 C hr  a0 x1 x2 (-1000000001 : Int32) h0 M_6 ls (lv_sub hl [0, 1, 2] rfl)
      · refine zz_aload_n C dX9_read_39 rfl (lv_at hl 0 rfl) ?_
        refine zz_get C (zz_lt h0 (by decide)) (zz_c9 h0) rfl in_X9_read_X9 14 (by decide) (List.mem_of_getElem? (i := 4) rfl) rfl dX9_read_40 ?_
        refine zz_iload_n C dX9_read_43 rfl (lv_at hl 1 rfl) ?_
        refine zz_iald C (zz_lt (zz_s9_14 h0) (by decide)) (zz_c15 (zz_s9_14 h0)) dX9_read_44 ?_
        refine zz_bipush (v := 6) C dX9_read_45 (by decide) ?_
        refine zz_icmp_le (tgt := 56) C dX9_read_47 (by decide) (fun c_8 => ?_) (fun c_8 => ?_)
        · refine zz_iconst (v := 0) C dX9_read_56 (by decide) ?_
          exact wb_X9_read_57 C hr  a0 x1 x2 (0 : Int32) h0 M_6 ls (lv_sub hl [0, 1, 2] rfl)
        · refine zz_ldcw (v := -1000000007) C (List.mem_of_getElem? (i := 5) rfl) dX9_read_50 ?_
          refine zz_goto (tgt := 57) C dX9_read_53 (by decide) ?_
          exact wb_X9_read_57 C hr  a0 x1 x2 (-1000000007 : Int32) h0 M_6 ls (lv_sub hl [0, 1, 2] rfl)
-- X9_image ('X9', 'image', '()I')
theorem in_X9_image_X9 : ∀ w ∈ u_ws RX9 TX9 20, w ∈ wsX9_image := fun _ h => List.mem_cons_of_mem _ (List.mem_append_right _ h)
def f_X9_image (a0 : Nat) (M : zz_M) : Option (Int32 × zz_M) := zz_bd (f_X9_moveAll a0 (1 : Int32) 139 M) (fun _ M_1 => zz_w (zz_si M_1 a0 19 (1 : Int32)) (fun M_2 => some ((1 : Int32), M_2)))
set_option maxRecDepth 100000 in
set_option maxHeartbeats 4000000 in
theorem m_X9_image (l : Launch) (E : zz_E) (a0 : Nat) (h0 : zz_sh a0 = 9) (M : zz_M) : zz_Met (zz_pi E) l yX9_image wsX9_image 2 E [.ref (E.1 + a0)] M (f_X9_image a0 M) := by
  refine zz_met (cc := cX9_image) (nL := 1) (ret := (some .int)) (by decide) rfl (Nat.le_of_ble_eq_true rfl) ?_
  intro p e s m below meth c C hr ls hl
  have C : zz_C E RX9 cX9_image 1 wsX9_image p s m [.ref (E.1 + a0)].toArray meth c := C
  have hl : lv_has ls 1 [(0, .ref (E.1 + a0))] := hl
  unfold f_X9_image
  refine zz_aload_n C dX9_image_0 rfl (lv_at hl 0 rfl) ?_
  refine zz_iconst (v := 1) C dX9_image_1 (by decide) ?_
  refine zz_aload_n C dX9_image_2 rfl (lv_at hl 0 rfl) ?_
  refine zz_get C (zz_lt h0 (by decide)) (zz_c9 h0) rfl in_X9_image_X9 17 (by decide) (List.mem_of_getElem? (i := 1) rfl) rfl dX9_image_3 ?_
  refine zz_callVv (As := [.int (1 : Int32), .ref (E.1 + 139)]) (rest := []) C (m_X9_moveAll l E a0 (1 : Int32) 139 h0 (zz_s9_17 h0) M) (cwV 2 C.1.2.2.2.2 gX9_image_X9_moveAll rfl rfl rfl hdV_X9_moveAll ⟨Nat.le_of_ble_eq_true rfl, Nat.le_of_ble_eq_true rfl⟩) (zz_lt h0 (by decide)) (zz_c9 h0) rfl rfl hl.1 rfl (Nat.le_of_ble_eq_true rfl) dX9_image_6 (fun _ M_1 => ?_)
  refine zz_aload_n C dX9_image_9 rfl (lv_at hl 0 rfl) ?_
  refine zz_iconst (v := 1) C dX9_image_10 (by decide) ?_
  refine zz_put (M1 := zz_si M_1 a0 19 (1 : Int32)) C (zz_lt h0 (by decide)) (zz_c9 h0) rfl in_X9_image_X9 tyX9 tyX9_ok nmX9 19 (by decide) (List.mem_of_getElem? (i := 2) rfl) rfl (zz_nb (v := (1 : Int32)) rfl) (zz_fb (v := (1 : Int32)) rfl) (Nat.le_of_ble_eq_true rfl) (zz_p9_19 h0) zz_cell_si dX9_image_11 (fun M_2 => ?_)
  refine zz_iconst (v := 1) C dX9_image_14 (by decide) ?_
  exact zz_iret C hr dX9_image_15
-- X9_undo ('X9', 'undo', '()I')
theorem in_X9_undo_X9 : ∀ w ∈ u_ws RX9 TX9 20, w ∈ wsX9_undo := fun _ h => List.mem_cons_of_mem _ (List.mem_append_right _ h)
def f_X9_undo (a0 : Nat) (M : zz_M) : Option (Int32 × zz_M) := (if (zz_i M a0 19) = 0 then zz_bd (f_X9_finds a0 (-1000000004 : Int32) M) (fun r_3 M_4 => some (r_3, M_4)) else zz_bd (f_X9_moveAll a0 (0 : Int32) 139 M) (fun _ M_2 => (if zz_in (0 : Int32) 440 = true then some ((zz_i M_2 130 (zz_n (0 : Int32))), M_2) else none)))
set_option maxRecDepth 100000 in
set_option maxHeartbeats 4000000 in
theorem m_X9_undo (l : Launch) (E : zz_E) (a0 : Nat) (h0 : zz_sh a0 = 9) (M : zz_M) : zz_Met (zz_pi E) l yX9_undo wsX9_undo 2 E [.ref (E.1 + a0)] M (f_X9_undo a0 M) := by
  refine zz_met (cc := cX9_undo) (nL := 1) (ret := (some .int)) (by decide) rfl (Nat.le_of_ble_eq_true rfl) ?_
  intro p e s m below meth c C hr ls hl
  have C : zz_C E RX9 cX9_undo 1 wsX9_undo p s m [.ref (E.1 + a0)].toArray meth c := C
  have hl : lv_has ls 1 [(0, .ref (E.1 + a0))] := hl
  unfold f_X9_undo
  refine zz_aload_n C dX9_undo_0 rfl (lv_at hl 0 rfl) ?_
  refine zz_get C (zz_lt h0 (by decide)) (zz_c9 h0) rfl in_X9_undo_X9 19 (by decide) (List.mem_of_getElem? (i := 1) rfl) rfl dX9_undo_1 ?_
  refine zz_if_ne (tgt := 14) C dX9_undo_4 (by decide) (fun c_1 => ?_) (fun c_1 => ?_)
  · refine zz_aload_n C dX9_undo_7 rfl (lv_at hl 0 rfl) ?_
    refine zz_ldc (v := -1000000004) C (List.mem_of_getElem? (i := 2) rfl) dX9_undo_8 ?_
    refine zz_callVi (As := [.int (-1000000004 : Int32)]) (rest := []) C (m_X9_finds l E a0 (-1000000004 : Int32) h0 M) (cwV 1 C.1.2.2.2.2 gX9_undo_X9_finds rfl rfl rfl hdV_X9_finds ⟨Nat.le_of_ble_eq_true rfl, Nat.le_of_ble_eq_true rfl⟩) (zz_lt h0 (by decide)) (zz_c9 h0) rfl rfl hl.1 rfl (Nat.le_of_ble_eq_true rfl) dX9_undo_10 (fun r_3 M_4 => ?_)
    exact zz_iret C hr dX9_undo_13
  · refine zz_aload_n C dX9_undo_14 rfl (lv_at hl 0 rfl) ?_
    refine zz_iconst (v := 0) C dX9_undo_15 (by decide) ?_
    refine zz_aload_n C dX9_undo_16 rfl (lv_at hl 0 rfl) ?_
    refine zz_get C (zz_lt h0 (by decide)) (zz_c9 h0) rfl in_X9_undo_X9 17 (by decide) (List.mem_of_getElem? (i := 3) rfl) rfl dX9_undo_17 ?_
    refine zz_callVv (As := [.int (0 : Int32), .ref (E.1 + 139)]) (rest := []) C (m_X9_moveAll l E a0 (0 : Int32) 139 h0 (zz_s9_17 h0) M) (cwV 2 C.1.2.2.2.2 gX9_undo_X9_moveAll rfl rfl rfl hdV_X9_moveAll ⟨Nat.le_of_ble_eq_true rfl, Nat.le_of_ble_eq_true rfl⟩) (zz_lt h0 (by decide)) (zz_c9 h0) rfl rfl hl.1 rfl (Nat.le_of_ble_eq_true rfl) dX9_undo_20 (fun _ M_2 => ?_)
    refine zz_aload_n C dX9_undo_23 rfl (lv_at hl 0 rfl) ?_
    refine zz_get C (zz_lt h0 (by decide)) (zz_c9 h0) rfl in_X9_undo_X9 0 (by decide) (List.mem_of_getElem? (i := 4) rfl) rfl dX9_undo_24 ?_
    refine zz_iconst (v := 0) C dX9_undo_27 (by decide) ?_
    refine zz_iald C (zz_lt (zz_s9_0 h0) (by decide)) (zz_c13 (zz_s9_0 h0)) dX9_undo_28 ?_
    exact zz_iret C hr dX9_undo_29
-- X9_tear ('X9', 'tear', '()I')
theorem in_X9_tear_X9 : ∀ w ∈ u_ws RX9 TX9 20, w ∈ wsX9_tear := fun _ h => List.mem_cons_of_mem _ (List.mem_append_right _ h)
def b_X9_tear_12 (a0 : Nat) (st0 : Int32) (M : zz_M) : Option (Int32 × zz_M) := zz_w (zz_si M a0 19 (0 : Int32)) (fun M_2 => some (st0, M_2))
set_option maxRecDepth 100000 in
set_option maxHeartbeats 4000000 in
theorem wb_X9_tear_12 {p : Program} {l : Launch} {e : Env} {s : State} {m : MethodId} {args : Array Value} {below : List Frame} {meth : Method} {c : Code} {E : zz_E} (C : zz_C E RX9 cX9_tear 2 wsX9_tear p s m args meth c) (hr : meth.sig.returnType = (some .int)) : ∀ (a0 : Nat) (st0 : Int32) (ha0 : zz_sh a0 = 9) (M : zz_M) (ls : Array Slot), lv_has ls 2 [(0, .ref (E.1 + a0))] → zz_Z E p l e (zz_rm 1) s m args below meth c (zz_Q (zz_pi E) E below args s) (b_X9_tear_12 a0 st0 M) M (F0 m 12 ls [.int st0]) := by
  intro a0 st0 ha0 M ls hl
  unfold b_X9_tear_12
  refine zz_istored_n (lv' := [(1, .int st0), (0, .ref (E.1 + a0))]) C dX9_tear_12 rfl hl (by decide) rfl (fun ls hl => ?_)
  refine zz_aload_n C dX9_tear_13 rfl (lv_at hl 1 rfl) ?_
  refine zz_iconst (v := 0) C dX9_tear_14 (by decide) ?_
  refine zz_put (M1 := zz_si M a0 19 (0 : Int32)) C (zz_lt ha0 (by decide)) (zz_c9 ha0) rfl in_X9_tear_X9 tyX9 tyX9_ok nmX9 19 (by decide) (List.mem_of_getElem? (i := 1) rfl) rfl (zz_nb (v := (0 : Int32)) rfl) (zz_fb (v := (0 : Int32)) rfl) (Nat.le_of_ble_eq_true rfl) (zz_p9_19 ha0) zz_cell_si dX9_tear_15 (fun M_2 => ?_)
  refine zz_iload_n C dX9_tear_18 rfl (lv_at hl 0 rfl) ?_
  exact zz_iret C hr dX9_tear_19
def f_X9_tear (a0 : Nat) (M : zz_M) : Option (Int32 × zz_M) := (if (zz_i M a0 19) = 0 then b_X9_tear_12  a0 (0 : Int32) M else b_X9_tear_12  a0 (1 : Int32) M)
set_option maxRecDepth 100000 in
set_option maxHeartbeats 4000000 in
theorem m_X9_tear (l : Launch) (E : zz_E) (a0 : Nat) (h0 : zz_sh a0 = 9) (M : zz_M) : zz_Met (zz_pi E) l yX9_tear wsX9_tear 1 E [.ref (E.1 + a0)] M (f_X9_tear a0 M) := by
  refine zz_met (cc := cX9_tear) (nL := 2) (ret := (some .int)) (by decide) rfl (Nat.le_of_ble_eq_true rfl) ?_
  intro p e s m below meth c C hr ls hl
  have C : zz_C E RX9 cX9_tear 2 wsX9_tear p s m [.ref (E.1 + a0)].toArray meth c := C
  have hl : lv_has ls 2 [(0, .ref (E.1 + a0))] := hl
  unfold f_X9_tear
  refine zz_aload_n C dX9_tear_0 rfl (lv_at hl 0 rfl) ?_
  refine zz_get C (zz_lt h0 (by decide)) (zz_c9 h0) rfl in_X9_tear_X9 19 (by decide) (List.mem_of_getElem? (i := 1) rfl) rfl dX9_tear_1 ?_
  refine zz_if_eq (tgt := 11) C dX9_tear_4 (by decide) (fun c_1 => ?_) (fun c_1 => ?_)
  · refine zz_iconst (v := 0) C dX9_tear_11 (by decide) ?_
    exact wb_X9_tear_12 C hr  a0 (0 : Int32) h0 M ls (lv_sub hl [0] rfl)
  · refine zz_iconst (v := 1) C dX9_tear_7 (by decide) ?_
    refine zz_goto (tgt := 12) C dX9_tear_8 (by decide) ?_
    exact wb_X9_tear_12 C hr  a0 (1 : Int32) h0 M ls (lv_sub hl [0] rfl)
-- X9_count ('X9', 'count', '(I)I')
theorem in_X9_count_X9 : ∀ w ∈ u_ws RX9 TX9 20, w ∈ wsX9_count := fun _ h => List.mem_cons_of_mem _ (List.mem_append_right _ h)
def b_X9_count_41 : Nat → Nat → Int32 → Int32 → zz_M → Option (Int32 × zz_M)
  | 0 => fun _ _ _ _ => none
  | n + 1 => fun a0 x2 x3 M => (if zz_in (0 : Int32) 440 = true then (if (zz_i M 130 (zz_n (0 : Int32))) ≤ x3 then some (x2, M) else zz_bd (f_X9_many a0 x3 M) (fun r_8 M_9 => zz_w (x2 + r_8) (fun x2_10 => zz_w (x3 + (1 : Int32)) (fun x3_11 => (b_X9_count_41 n) a0 x2_10 x3_11 M_9)))) else none)
set_option maxRecDepth 100000 in
set_option maxHeartbeats 4000000 in
theorem wb_X9_count_41 {p : Program} {l : Launch} {e : Env} {s : State} {m : MethodId} {args : Array Value} {below : List Frame} {meth : Method} {c : Code} {E : zz_E} (C : zz_C E RX9 cX9_count 4 wsX9_count p s m args meth c) (hr : meth.sig.returnType = (some .int)) : ∀ (n : Nat) (a0 : Nat) (x2 : Int32) (x3 : Int32) (ha0 : zz_sh a0 = 9) (M : zz_M) (ls : Array Slot), lv_has ls 4 [(0, .ref (E.1 + a0)), (2, .int x2), (3, .int x3)] → zz_Z E p l e (zz_rm 3) s m args below meth c (zz_Q (zz_pi E) E below args s) (b_X9_count_41 n a0 x2 x3 M) M (F0 m 41 ls []) := by
  intro n
  induction n with
  | zero => intro a0 x2 x3 ha0 M ls hl; exact zz_none
  | succ n ih =>
    intro a0 x2 x3 ha0 M ls hl
    rw [b_X9_count_41]
    refine zz_iload_n C dX9_count_41 rfl (lv_at hl 2 rfl) ?_
    refine zz_aload_n C dX9_count_42 rfl (lv_at hl 0 rfl) ?_
    refine zz_get C (zz_lt ha0 (by decide)) (zz_c9 ha0) rfl in_X9_count_X9 0 (by decide) (List.mem_of_getElem? (i := 1) rfl) rfl dX9_count_43 ?_
    refine zz_iconst (v := 0) C dX9_count_46 (by decide) ?_
    refine zz_iald C (zz_lt (zz_s9_0 ha0) (by decide)) (zz_c13 (zz_s9_0 ha0)) dX9_count_47 ?_
    refine zz_icmp_ge (tgt := 65) C dX9_count_48 (by decide) (fun c_7 => ?_) (fun c_7 => ?_)
    · refine zz_iload_n C dX9_count_65 rfl (lv_at hl 1 rfl) ?_
      exact zz_iret C hr dX9_count_66
    · refine zz_iload_n C dX9_count_51 rfl (lv_at hl 1 rfl) ?_
      refine zz_aload_n C dX9_count_52 rfl (lv_at hl 0 rfl) ?_
      refine zz_iload_n C dX9_count_53 rfl (lv_at hl 2 rfl) ?_
      refine zz_callVi (As := [.int x3]) (rest := [.int x2]) C (m_X9_many l E a0 x3 ha0 M) (cwV 1 C.1.2.2.2.2 gX9_count_X9_many rfl rfl rfl hdV_X9_many ⟨Nat.le_of_ble_eq_true rfl, Nat.le_of_ble_eq_true rfl⟩) (zz_lt ha0 (by decide)) (zz_c9 ha0) rfl rfl hl.1 rfl (Nat.le_of_ble_eq_true rfl) dX9_count_54 (fun r_8 M_9 => ?_)
      refine zz_iadd C dX9_count_57 ?_
      refine zz_istore_n C (fun x2_10 => [(2, .int x2_10), (0, .ref (E.1 + a0)), (3, .int x3)]) dX9_count_58 rfl hl (by decide) (fun _ => rfl) (fun x2_10 ls hl => ?_)
      refine zz_iinc (k9 := 2) (d := 1) C (fun x3_11 => [(3, .int x3_11), (2, .int x2_10), (0, .ref (E.1 + a0))]) dX9_count_59 hl rfl (by decide) (by decide) (fun _ => rfl) (fun x3_11 ls hl => ?_)
      refine zz_goto (tgt := 41) C dX9_count_62 (by decide) ?_
      exact ih a0 x2_10 x3_11 ha0 M_9 ls (lv_sub hl [2, 1, 0] rfl)
def b_X9_count_74 : Nat → Nat → Int32 → Int32 → zz_M → Option (Int32 × zz_M)
  | 0 => fun _ _ _ _ => none
  | n + 1 => fun a0 x2 x3 M => (if (4 : Int32) ≤ x3 then some (x2, M) else zz_bd (f_X9_its a0 x3 (3 : Int32) M) (fun r_13 M_14 => zz_w (x2 ||| (r_13 <<< (x3 &&& (31 : Int32)))) (fun x2_15 => zz_w (x3 + (1 : Int32)) (fun x3_16 => (b_X9_count_74 n) a0 x2_15 x3_16 M_14))))
set_option maxRecDepth 100000 in
set_option maxHeartbeats 4000000 in
theorem wb_X9_count_74 {p : Program} {l : Launch} {e : Env} {s : State} {m : MethodId} {args : Array Value} {below : List Frame} {meth : Method} {c : Code} {E : zz_E} (C : zz_C E RX9 cX9_count 4 wsX9_count p s m args meth c) (hr : meth.sig.returnType = (some .int)) : ∀ (n : Nat) (a0 : Nat) (x2 : Int32) (x3 : Int32) (ha0 : zz_sh a0 = 9) (M : zz_M) (ls : Array Slot), lv_has ls 4 [(0, .ref (E.1 + a0)), (2, .int x2), (3, .int x3)] → zz_Z E p l e (zz_rm 3) s m args below meth c (zz_Q (zz_pi E) E below args s) (b_X9_count_74 n a0 x2 x3 M) M (F0 m 74 ls []) := by
  intro n
  induction n with
  | zero => intro a0 x2 x3 ha0 M ls hl; exact zz_none
  | succ n ih =>
    intro a0 x2 x3 ha0 M ls hl
    rw [b_X9_count_74]
    refine zz_iload_n C dX9_count_74 rfl (lv_at hl 2 rfl) ?_
    refine zz_iconst (v := 4) C dX9_count_75 (by decide) ?_
    refine zz_icmp_ge (tgt := 96) C dX9_count_76 (by decide) (fun c_12 => ?_) (fun c_12 => ?_)
    · refine zz_iload_n C dX9_count_96 rfl (lv_at hl 1 rfl) ?_
      exact zz_iret C hr dX9_count_97
    · refine zz_iload_n C dX9_count_79 rfl (lv_at hl 1 rfl) ?_
      refine zz_aload_n C dX9_count_80 rfl (lv_at hl 0 rfl) ?_
      refine zz_iload_n C dX9_count_81 rfl (lv_at hl 2 rfl) ?_
      refine zz_iconst (v := 3) C dX9_count_82 (by decide) ?_
      refine zz_callVi (As := [.int x3, .int (3 : Int32)]) (rest := [.int x2]) C (m_X9_its l E a0 x3 (3 : Int32) ha0 M) (cwV 2 C.1.2.2.2.2 gX9_count_X9_its rfl rfl rfl hdV_X9_its ⟨Nat.le_of_ble_eq_true rfl, Nat.le_of_ble_eq_true rfl⟩) (zz_lt ha0 (by decide)) (zz_c9 ha0) rfl rfl hl.1 rfl (Nat.le_of_ble_eq_true rfl) dX9_count_83 (fun r_13 M_14 => ?_)
      refine zz_iload_n C dX9_count_86 rfl (lv_at hl 2 rfl) ?_
      refine zz_ishl C dX9_count_87 ?_
      refine zz_ior C dX9_count_88 ?_
      refine zz_istore_n C (fun x2_15 => [(2, .int x2_15), (0, .ref (E.1 + a0)), (3, .int x3)]) dX9_count_89 rfl hl (by decide) (fun _ => rfl) (fun x2_15 ls hl => ?_)
      refine zz_iinc (k9 := 2) (d := 1) C (fun x3_16 => [(3, .int x3_16), (2, .int x2_15), (0, .ref (E.1 + a0))]) dX9_count_90 hl rfl (by decide) (by decide) (fun _ => rfl) (fun x3_16 ls hl => ?_)
      refine zz_goto (tgt := 74) C dX9_count_93 (by decide) ?_
      exact ih a0 x2_15 x3_16 ha0 M_14 ls (lv_sub hl [2, 1, 0] rfl)
def f_X9_count (a0 : Nat) (x1 : Int32) (M : zz_M) : Option (Int32 × zz_M) := (if x1 = (0 : Int32) then (if zz_in (0 : Int32) 440 = true then some ((zz_i M 130 (zz_n (0 : Int32))), M) else none) else (if x1 = (1 : Int32) then b_X9_count_41  zz_fuel a0 (0 : Int32) (0 : Int32) M else (if x1 = (2 : Int32) then some ((zz_i M a0 6), M) else (if x1 = (3 : Int32) then b_X9_count_74  zz_fuel a0 (0 : Int32) (0 : Int32) M else zz_bd (f_X9_finds a0 (-1000000001 : Int32) M) (fun r_5 M_6 => some (r_5, M_6))))))
set_option maxRecDepth 100000 in
set_option maxHeartbeats 4000000 in
theorem m_X9_count (l : Launch) (E : zz_E) (a0 : Nat) (x1 : Int32) (h0 : zz_sh a0 = 9) (M : zz_M) : zz_Met (zz_pi E) l yX9_count wsX9_count 3 E [.ref (E.1 + a0), .int x1] M (f_X9_count a0 x1 M) := by
  refine zz_met (cc := cX9_count) (nL := 4) (ret := (some .int)) (by decide) rfl (Nat.le_of_ble_eq_true rfl) ?_
  intro p e s m below meth c C hr ls hl
  have C : zz_C E RX9 cX9_count 4 wsX9_count p s m [.ref (E.1 + a0), .int x1].toArray meth c := C
  have hl : lv_has ls 4 [(0, .ref (E.1 + a0)), (1, .int x1)] := hl
  unfold f_X9_count
  refine zz_iconst (v := 0) C dX9_count_0 (by decide) ?_
  refine zz_istored_n (lv' := [(2, .int (0 : Int32)), (0, .ref (E.1 + a0)), (1, .int x1)]) C dX9_count_1 rfl hl (by decide) rfl (fun ls hl => ?_)
  refine zz_iload_n C dX9_count_2 rfl (lv_at hl 2 rfl) ?_
  refine zz_ite (fun c_1 => ?_) (fun c_1 => ?_)
  · refine zz_tabIn (tgt := 32) C dX9_count_3 (by rw [c_1]; decide) (by rw [c_1]; decide) (by rw [c_1]; rfl) (by decide) ?_
    refine zz_aload_n C dX9_count_32 rfl (lv_at hl 1 rfl) ?_
    refine zz_get C (zz_lt h0 (by decide)) (zz_c9 h0) rfl in_X9_count_X9 0 (by decide) (List.mem_of_getElem? (i := 1) rfl) rfl dX9_count_33 ?_
    refine zz_iconst (v := 0) C dX9_count_36 (by decide) ?_
    refine zz_iald C (zz_lt (zz_s9_0 h0) (by decide)) (zz_c13 (zz_s9_0 h0)) dX9_count_37 ?_
    exact zz_iret C hr dX9_count_38
  · refine zz_ite (fun c_2 => ?_) (fun c_2 => ?_)
    · refine zz_tabIn (tgt := 39) C dX9_count_3 (by rw [c_2]; decide) (by rw [c_2]; decide) (by rw [c_2]; rfl) (by decide) ?_
      refine zz_iconst (v := 0) C dX9_count_39 (by decide) ?_
      refine zz_istored_n (lv' := [(3, .int (0 : Int32)), (2, .int (0 : Int32)), (0, .ref (E.1 + a0)), (1, .int x1)]) C dX9_count_40 rfl hl (by decide) rfl (fun ls hl => ?_)
      exact wb_X9_count_41 C hr  zz_fuel a0 (0 : Int32) (0 : Int32) h0 M ls (lv_sub hl [2, 1, 0] rfl)
    · refine zz_ite (fun c_3 => ?_) (fun c_3 => ?_)
      · refine zz_tabIn (tgt := 67) C dX9_count_3 (by rw [c_3]; decide) (by rw [c_3]; decide) (by rw [c_3]; rfl) (by decide) ?_
        refine zz_aload_n C dX9_count_67 rfl (lv_at hl 1 rfl) ?_
        refine zz_get C (zz_lt h0 (by decide)) (zz_c9 h0) rfl in_X9_count_X9 6 (by decide) (List.mem_of_getElem? (i := 2) rfl) rfl dX9_count_68 ?_
        exact zz_iret C hr dX9_count_71
      · refine zz_ite (fun c_4 => ?_) (fun c_4 => ?_)
        · refine zz_tabIn (tgt := 72) C dX9_count_3 (by rw [c_4]; decide) (by rw [c_4]; decide) (by rw [c_4]; rfl) (by decide) ?_
          refine zz_iconst (v := 0) C dX9_count_72 (by decide) ?_
          refine zz_istored_n (lv' := [(3, .int (0 : Int32)), (2, .int (0 : Int32)), (0, .ref (E.1 + a0)), (1, .int x1)]) C dX9_count_73 rfl hl (by decide) rfl (fun ls hl => ?_)
          exact wb_X9_count_74 C hr  zz_fuel a0 (0 : Int32) (0 : Int32) h0 M ls (lv_sub hl [2, 1, 0] rfl)
        · refine zz_tabOut (tgt := 98) C dX9_count_3 (by have q0 : x1.toInt ≠ 0 := zz_ne c_1; have q1 : x1.toInt ≠ 1 := zz_ne c_2; have q2 : x1.toInt ≠ 2 := zz_ne c_3; have q3 : x1.toInt ≠ 3 := zz_ne c_4; omega) (by decide) ?_
          refine zz_aload_n C dX9_count_98 rfl (lv_at hl 1 rfl) ?_
          refine zz_ldc (v := -1000000001) C (List.mem_of_getElem? (i := 3) rfl) dX9_count_99 ?_
          refine zz_callVi (As := [.int (-1000000001 : Int32)]) (rest := []) C (m_X9_finds l E a0 (-1000000001 : Int32) h0 M) (cwV 1 C.1.2.2.2.2 gX9_count_X9_finds rfl rfl rfl hdV_X9_finds ⟨Nat.le_of_ble_eq_true rfl, Nat.le_of_ble_eq_true rfl⟩) (zz_lt h0 (by decide)) (zz_c9 h0) rfl rfl hl.1 rfl (Nat.le_of_ble_eq_true rfl) dX9_count_101 (fun r_5 M_6 => ?_)
          exact zz_iret C hr dX9_count_104
-- X9_status ('X9', 'status', '(I)I')
theorem in_X9_status_X9 : ∀ w ∈ u_ws RX9 TX9 20, w ∈ wsX9_status := fun _ h => List.mem_cons_of_mem _ (List.mem_append_right _ h)
def b_X9_status_21 : Nat → Nat → Int32 → Int32 → Int32 → zz_M → Option (Int32 × zz_M)
  | 0 => fun _ _ _ _ _ => none
  | n + 1 => fun a0 x1 x2 x3 M => (if (7 : Int32) ≤ x3 then (if 0 ≤ x1 then (if 0 ≤ x1 then (if zz_in x1 7 = true then some ((zz_i M 131 (zz_n x1)), M) else none) else (if zz_in (0 : Int32) 7 = true then some ((zz_i M 131 (zz_n (0 : Int32))), M) else none)) else some (x2, M)) else (if zz_in x3 7 = true then zz_w (x2 + (zz_i M 131 (zz_n x3))) (fun x2_9 => zz_w (x3 + (1 : Int32)) (fun x3_10 => (b_X9_status_21 n) a0 x1 x2_9 x3_10 M)) else none))
set_option maxRecDepth 100000 in
set_option maxHeartbeats 4000000 in
theorem wb_X9_status_21 {p : Program} {l : Launch} {e : Env} {s : State} {m : MethodId} {args : Array Value} {below : List Frame} {meth : Method} {c : Code} {E : zz_E} (C : zz_C E RX9 cX9_status 4 wsX9_status p s m args meth c) (hr : meth.sig.returnType = (some .int)) : ∀ (n : Nat) (a0 : Nat) (x1 : Int32) (x2 : Int32) (x3 : Int32) (ha0 : zz_sh a0 = 9) (M : zz_M) (ls : Array Slot), lv_has ls 4 [(0, .ref (E.1 + a0)), (1, .int x1), (2, .int x2), (3, .int x3)] → zz_Z E p l e (zz_rm 2) s m args below meth c (zz_Q (zz_pi E) E below args s) (b_X9_status_21 n a0 x1 x2 x3 M) M (F0 m 21 ls []) := by
  intro n
  induction n with
  | zero => intro a0 x1 x2 x3 ha0 M ls hl; exact zz_none
  | succ n ih =>
    intro a0 x1 x2 x3 ha0 M ls hl
    rw [b_X9_status_21]
    refine zz_iload_n C dX9_status_21 rfl (lv_at hl 3 rfl) ?_
    refine zz_bipush (v := 7) C dX9_status_22 (by decide) ?_
    refine zz_icmp_ge (tgt := 42) C dX9_status_24 (by decide) (fun c_6 => ?_) (fun c_6 => ?_)
    · refine zz_iload_n C dX9_status_42 rfl (lv_at hl 1 rfl) ?_
      refine zz_if_ge (tgt := 50) C dX9_status_43 (by decide) (fun c_7 => ?_) (fun c_7 => ?_)
      · refine zz_aload_n C dX9_status_50 rfl (lv_at hl 0 rfl) ?_
        refine zz_get C (zz_lt ha0 (by decide)) (zz_c9 ha0) rfl in_X9_status_X9 1 (by decide) (List.mem_of_getElem? (i := 2) rfl) rfl dX9_status_51 ?_
        refine zz_iload_n C dX9_status_54 rfl (lv_at hl 1 rfl) ?_
        refine zz_if_ge (tgt := 62) C dX9_status_55 (by decide) (fun c_8 => ?_) (fun c_8 => ?_)
        · refine zz_iload_n C dX9_status_62 rfl (lv_at hl 1 rfl) ?_
          refine zz_iald C (zz_lt (zz_s9_1 ha0) (by decide)) (zz_c12 (zz_s9_1 ha0)) dX9_status_63 ?_
          exact zz_iret C hr dX9_status_64
        · refine zz_iconst (v := 0) C dX9_status_58 (by decide) ?_
          refine zz_goto (tgt := 63) C dX9_status_59 (by decide) ?_
          refine zz_iald C (zz_lt (zz_s9_1 ha0) (by decide)) (zz_c12 (zz_s9_1 ha0)) dX9_status_63 ?_
          exact zz_iret C hr dX9_status_64
      · refine zz_iload_n C dX9_status_46 rfl (lv_at hl 2 rfl) ?_
        refine zz_goto (tgt := 64) C dX9_status_47 (by decide) ?_
        exact zz_iret C hr dX9_status_64
    · refine zz_iload_n C dX9_status_27 rfl (lv_at hl 2 rfl) ?_
      refine zz_aload_n C dX9_status_28 rfl (lv_at hl 0 rfl) ?_
      refine zz_get C (zz_lt ha0 (by decide)) (zz_c9 ha0) rfl in_X9_status_X9 1 (by decide) (List.mem_of_getElem? (i := 2) rfl) rfl dX9_status_29 ?_
      refine zz_iload_n C dX9_status_32 rfl (lv_at hl 3 rfl) ?_
      refine zz_iald C (zz_lt (zz_s9_1 ha0) (by decide)) (zz_c12 (zz_s9_1 ha0)) dX9_status_33 ?_
      refine zz_iadd C dX9_status_34 ?_
      refine zz_istore_n C (fun x2_9 => [(2, .int x2_9), (0, .ref (E.1 + a0)), (1, .int x1), (3, .int x3)]) dX9_status_35 rfl hl (by decide) (fun _ => rfl) (fun x2_9 ls hl => ?_)
      refine zz_iinc (k9 := 3) (d := 1) C (fun x3_10 => [(3, .int x3_10), (2, .int x2_9), (0, .ref (E.1 + a0)), (1, .int x1)]) dX9_status_36 hl rfl (by decide) (by decide) (fun _ => rfl) (fun x3_10 ls hl => ?_)
      refine zz_goto (tgt := 21) C dX9_status_39 (by decide) ?_
      exact ih a0 x1 x2_9 x3_10 ha0 M ls (lv_sub hl [2, 3, 1, 0] rfl)
def f_X9_status (a0 : Nat) (x1 : Int32) (M : zz_M) : Option (Int32 × zz_M) := zz_bd (f_X9_in x1 (-1 : Int32) (6 : Int32) M) (fun r_1 M_2 => (if r_1 = 0 then zz_bd (f_X9_finds a0 (-1000000001 : Int32) M_2) (fun r_4 M_5 => some (r_4, M_5)) else b_X9_status_21  zz_fuel a0 x1 (0 : Int32) (0 : Int32) M_2))
set_option maxRecDepth 100000 in
set_option maxHeartbeats 4000000 in
theorem m_X9_status (l : Launch) (E : zz_E) (a0 : Nat) (x1 : Int32) (h0 : zz_sh a0 = 9) (M : zz_M) : zz_Met (zz_pi E) l yX9_status wsX9_status 2 E [.ref (E.1 + a0), .int x1] M (f_X9_status a0 x1 M) := by
  refine zz_met (cc := cX9_status) (nL := 4) (ret := (some .int)) (by decide) rfl (Nat.le_of_ble_eq_true rfl) ?_
  intro p e s m below meth c C hr ls hl
  have C : zz_C E RX9 cX9_status 4 wsX9_status p s m [.ref (E.1 + a0), .int x1].toArray meth c := C
  have hl : lv_has ls 4 [(0, .ref (E.1 + a0)), (1, .int x1)] := hl
  unfold f_X9_status
  refine zz_iload_n C dX9_status_0 rfl (lv_at hl 1 rfl) ?_
  refine zz_iconst (v := -1) C dX9_status_1 (by decide) ?_
  refine zz_bipush (v := 6) C dX9_status_2 (by decide) ?_
  refine zz_callSi (As := [.int x1, .int (-1 : Int32), .int (6 : Int32)]) (rest := []) C (m_X9_in l E x1 (-1 : Int32) (6 : Int32)  M) (va_cwS 3 C.1.2.2.2.2 gX9_status_X9_in rfl rfl rfl hdS_X9_in ⟨Nat.le_of_ble_eq_true rfl, Nat.le_of_ble_eq_true rfl⟩) rfl hl.1 rfl (Nat.le_of_ble_eq_true rfl) dX9_status_4 (fun r_1 M_2 => ?_)
  refine zz_if_ne (tgt := 17) C dX9_status_7 (by decide) (fun c_3 => ?_) (fun c_3 => ?_)
  · refine zz_aload_n C dX9_status_10 rfl (lv_at hl 0 rfl) ?_
    refine zz_ldc (v := -1000000001) C (List.mem_of_getElem? (i := 1) rfl) dX9_status_11 ?_
    refine zz_callVi (As := [.int (-1000000001 : Int32)]) (rest := []) C (m_X9_finds l E a0 (-1000000001 : Int32) h0 M_2) (cwV 1 C.1.2.2.2.2 gX9_status_X9_finds rfl rfl rfl hdV_X9_finds ⟨Nat.le_of_ble_eq_true rfl, Nat.le_of_ble_eq_true rfl⟩) (zz_lt h0 (by decide)) (zz_c9 h0) rfl rfl hl.1 rfl (Nat.le_of_ble_eq_true rfl) dX9_status_13 (fun r_4 M_5 => ?_)
    exact zz_iret C hr dX9_status_16
  · refine zz_iconst (v := 0) C dX9_status_17 (by decide) ?_
    refine zz_istored_n (lv' := [(2, .int (0 : Int32)), (0, .ref (E.1 + a0)), (1, .int x1)]) C dX9_status_18 rfl hl (by decide) rfl (fun ls hl => ?_)
    refine zz_iconst (v := 0) C dX9_status_19 (by decide) ?_
    refine zz_istored_n (lv' := [(3, .int (0 : Int32)), (2, .int (0 : Int32)), (0, .ref (E.1 + a0)), (1, .int x1)]) C dX9_status_20 rfl hl (by decide) rfl (fun ls hl => ?_)
    exact wb_X9_status_21 C hr  zz_fuel a0 x1 (0 : Int32) (0 : Int32) h0 M_2 ls (lv_sub hl [2, 3, 1, 0] rfl)
