-- X8_within ('X8', 'within', '(III)Z')
def f_X8_within (x0 : Int32) (x1 : Int32) (x2 : Int32) (M : zz_M) : Option (Int32 × zz_M) := (if x0 < x1 then some ((0 : Int32), M) else (if x2 < x0 then some ((0 : Int32), M) else some ((1 : Int32), M)))
set_option maxRecDepth 100000 in
set_option maxHeartbeats 4000000 in
theorem m_X8_within (l : Launch) (E : zz_E) (x0 : Int32) (x1 : Int32) (x2 : Int32)  (M : zz_M) : zz_Met (zz_pi E) l yX8_within wsX8_within 1 E [.int x0, .int x1, .int x2] M (f_X8_within x0 x1 x2 M) := by
  refine zz_met (cc := cX8_within) (nL := 3) (ret := (some .boolean)) (by decide) rfl (Nat.le_of_ble_eq_true rfl) ?_
  intro p e s m below meth c C hr ls hl
  have C : zz_C E RX8 cX8_within 3 wsX8_within p s m [.int x0, .int x1, .int x2].toArray meth c := C
  have hl : lv_has ls 3 [(0, .int x0), (1, .int x1), (2, .int x2)] := hl
  unfold f_X8_within
  refine zz_iload_n C dX8_within_0 rfl (lv_at hl 0 rfl) ?_
  refine zz_iload_n C dX8_within_1 rfl (lv_at hl 1 rfl) ?_
  refine zz_icmp_lt (tgt := 14) C dX8_within_2 (by decide) (fun c_1 => ?_) (fun c_1 => ?_)
  · refine zz_iconst (v := 0) C dX8_within_14 (by decide) ?_
    exact zz_zretl C (v := (0 : Int32)) rfl hr dX8_within_15
  · refine zz_iload_n C dX8_within_5 rfl (lv_at hl 0 rfl) ?_
    refine zz_iload_n C dX8_within_6 rfl (lv_at hl 2 rfl) ?_
    refine zz_icmp_gt (tgt := 14) C dX8_within_7 (by decide) (fun c_2 => ?_) (fun c_2 => ?_)
    · refine zz_iconst (v := 0) C dX8_within_14 (by decide) ?_
      exact zz_zretl C (v := (0 : Int32)) rfl hr dX8_within_15
    · refine zz_iconst (v := 1) C dX8_within_10 (by decide) ?_
      refine zz_goto (tgt := 15) C dX8_within_11 (by decide) ?_
      exact zz_zretl C (v := (1 : Int32)) rfl hr dX8_within_15
-- X8_plainGain ('X8', 'plainGain', '(I)I')
def f_X8_plainGain (x0 : Int32) (M : zz_M) : Option (Int32 × zz_M) := (if (30 : Int32) ≤ x0 then (if (60 : Int32) ≤ x0 then (if (80 : Int32) ≤ x0 then some ((-5 : Int32), M) else some ((4 : Int32), M)) else some ((6 : Int32), M)) else some ((9 : Int32), M))
set_option maxRecDepth 100000 in
set_option maxHeartbeats 4000000 in
theorem m_X8_plainGain (l : Launch) (E : zz_E) (x0 : Int32)  (M : zz_M) : zz_Met (zz_pi E) l yX8_plainGain wsX8_plainGain 1 E [.int x0] M (f_X8_plainGain x0 M) := by
  refine zz_met (cc := cX8_plainGain) (nL := 1) (ret := (some .int)) (by decide) rfl (Nat.le_of_ble_eq_true rfl) ?_
  intro p e s m below meth c C hr ls hl
  have C : zz_C E RX8 cX8_plainGain 1 wsX8_plainGain p s m [.int x0].toArray meth c := C
  have hl : lv_has ls 1 [(0, .int x0)] := hl
  unfold f_X8_plainGain
  refine zz_iload_n C dX8_plainGain_0 rfl (lv_at hl 0 rfl) ?_
  refine zz_bipush (v := 30) C dX8_plainGain_1 (by decide) ?_
  refine zz_icmp_ge (tgt := 9) C dX8_plainGain_3 (by decide) (fun c_1 => ?_) (fun c_1 => ?_)
  · refine zz_iload_n C dX8_plainGain_9 rfl (lv_at hl 0 rfl) ?_
    refine zz_bipush (v := 60) C dX8_plainGain_10 (by decide) ?_
    refine zz_icmp_ge (tgt := 18) C dX8_plainGain_12 (by decide) (fun c_2 => ?_) (fun c_2 => ?_)
    · refine zz_iload_n C dX8_plainGain_18 rfl (lv_at hl 0 rfl) ?_
      refine zz_bipush (v := 80) C dX8_plainGain_19 (by decide) ?_
      refine zz_icmp_ge (tgt := 28) C dX8_plainGain_21 (by decide) (fun c_3 => ?_) (fun c_3 => ?_)
      · refine zz_bipush (v := -5) C dX8_plainGain_28 (by decide) ?_
        exact zz_iret C hr dX8_plainGain_30
      · refine zz_iconst (v := 4) C dX8_plainGain_24 (by decide) ?_
        refine zz_goto (tgt := 30) C dX8_plainGain_25 (by decide) ?_
        exact zz_iret C hr dX8_plainGain_30
    · refine zz_bipush (v := 6) C dX8_plainGain_15 (by decide) ?_
      exact zz_iret C hr dX8_plainGain_17
  · refine zz_bipush (v := 9) C dX8_plainGain_6 (by decide) ?_
    exact zz_iret C hr dX8_plainGain_8
-- X8_altarGain ('X8', 'altarGain', '(I)I')
def f_X8_altarGain (x0 : Int32) (M : zz_M) : Option (Int32 × zz_M) := (if x0 ≤ (1 : Int32) then some (x0, M) else some ((x0 - (1 : Int32)), M))
set_option maxRecDepth 100000 in
set_option maxHeartbeats 4000000 in
theorem m_X8_altarGain (l : Launch) (E : zz_E) (x0 : Int32)  (M : zz_M) : zz_Met (zz_pi E) l yX8_altarGain wsX8_altarGain 1 E [.int x0] M (f_X8_altarGain x0 M) := by
  refine zz_met (cc := cX8_altarGain) (nL := 1) (ret := (some .int)) (by decide) rfl (Nat.le_of_ble_eq_true rfl) ?_
  intro p e s m below meth c C hr ls hl
  have C : zz_C E RX8 cX8_altarGain 1 wsX8_altarGain p s m [.int x0].toArray meth c := C
  have hl : lv_has ls 1 [(0, .int x0)] := hl
  unfold f_X8_altarGain
  refine zz_iload_n C dX8_altarGain_0 rfl (lv_at hl 0 rfl) ?_
  refine zz_iconst (v := 1) C dX8_altarGain_1 (by decide) ?_
  refine zz_icmp_le (tgt := 11) C dX8_altarGain_2 (by decide) (fun c_1 => ?_) (fun c_1 => ?_)
  · refine zz_iload_n C dX8_altarGain_11 rfl (lv_at hl 0 rfl) ?_
    exact zz_iret C hr dX8_altarGain_12
  · refine zz_iload_n C dX8_altarGain_5 rfl (lv_at hl 0 rfl) ?_
    refine zz_iconst (v := 1) C dX8_altarGain_6 (by decide) ?_
    refine zz_isub C dX8_altarGain_7 ?_
    refine zz_goto (tgt := 12) C dX8_altarGain_8 (by decide) ?_
    exact zz_iret C hr dX8_altarGain_12
-- X8_moreIfAny ('X8', 'moreIfAny', '(II)I')
def f_X8_moreIfAny (x0 : Int32) (x1 : Int32) (M : zz_M) : Option (Int32 × zz_M) := (if x0 ≤ 0 then some (x0, M) else some ((x0 + x1), M))
set_option maxRecDepth 100000 in
set_option maxHeartbeats 4000000 in
theorem m_X8_moreIfAny (l : Launch) (E : zz_E) (x0 : Int32) (x1 : Int32)  (M : zz_M) : zz_Met (zz_pi E) l yX8_moreIfAny wsX8_moreIfAny 1 E [.int x0, .int x1] M (f_X8_moreIfAny x0 x1 M) := by
  refine zz_met (cc := cX8_moreIfAny) (nL := 2) (ret := (some .int)) (by decide) rfl (Nat.le_of_ble_eq_true rfl) ?_
  intro p e s m below meth c C hr ls hl
  have C : zz_C E RX8 cX8_moreIfAny 2 wsX8_moreIfAny p s m [.int x0, .int x1].toArray meth c := C
  have hl : lv_has ls 2 [(0, .int x0), (1, .int x1)] := hl
  unfold f_X8_moreIfAny
  refine zz_iload_n C dX8_moreIfAny_0 rfl (lv_at hl 0 rfl) ?_
  refine zz_if_le (tgt := 10) C dX8_moreIfAny_1 (by decide) (fun c_1 => ?_) (fun c_1 => ?_)
  · refine zz_iload_n C dX8_moreIfAny_10 rfl (lv_at hl 0 rfl) ?_
    exact zz_iret C hr dX8_moreIfAny_11
  · refine zz_iload_n C dX8_moreIfAny_4 rfl (lv_at hl 0 rfl) ?_
    refine zz_iload_n C dX8_moreIfAny_5 rfl (lv_at hl 1 rfl) ?_
    refine zz_iadd C dX8_moreIfAny_6 ?_
    refine zz_goto (tgt := 11) C dX8_moreIfAny_7 (by decide) ?_
    exact zz_iret C hr dX8_moreIfAny_11
-- X8_isVat ('X8', 'isVat', '(I)Z')
theorem hdS_X8_within : yX8_within.cls ≠ "java/lang/invoke/MethodHandle" ∧ yX8_within.cls ≠ "java/lang/invoke/VarHandle" ∧ (parseMethodDescriptor yX8_within.desc).map (fun d => d.parameters.length) = some 3 := by decide +kernel
def f_X8_isVat (x0 : Int32) (M : zz_M) : Option (Int32 × zz_M) := zz_bd (f_X8_within x0 (0 : Int32) (3 : Int32) M) (fun r_1 M_2 => (if zz_bit r_1 = true then some (r_1, M_2) else none))
set_option maxRecDepth 100000 in
set_option maxHeartbeats 4000000 in
theorem m_X8_isVat (l : Launch) (E : zz_E) (x0 : Int32)  (M : zz_M) : zz_Met (zz_pi E) l yX8_isVat wsX8_isVat 2 E [.int x0] M (f_X8_isVat x0 M) := by
  refine zz_met (cc := cX8_isVat) (nL := 1) (ret := (some .boolean)) (by decide) rfl (Nat.le_of_ble_eq_true rfl) ?_
  intro p e s m below meth c C hr ls hl
  have C : zz_C E RX8 cX8_isVat 1 wsX8_isVat p s m [.int x0].toArray meth c := C
  have hl : lv_has ls 1 [(0, .int x0)] := hl
  unfold f_X8_isVat
  refine zz_iload_n C dX8_isVat_0 rfl (lv_at hl 0 rfl) ?_
  refine zz_iconst (v := 0) C dX8_isVat_1 (by decide) ?_
  refine zz_iconst (v := 3) C dX8_isVat_2 (by decide) ?_
  refine zz_callSi (As := [.int x0, .int (0 : Int32), .int (3 : Int32)]) (rest := []) C (m_X8_within l E x0 (0 : Int32) (3 : Int32)  M) (va_cwS 3 C.1.2.2.2.2 gX8_isVat_X8_within rfl rfl rfl hdS_X8_within ⟨Nat.le_of_ble_eq_true rfl, Nat.le_of_ble_eq_true rfl⟩) rfl hl.1 rfl (Nat.le_of_ble_eq_true rfl) dX8_isVat_3 (fun r_1 M_2 => ?_)
  exact zz_zret C hr dX8_isVat_6
-- X8_isKind ('X8', 'isKind', '(I)Z')
def f_X8_isKind (x0 : Int32) (M : zz_M) : Option (Int32 × zz_M) := zz_bd (f_X8_within x0 (0 : Int32) (5 : Int32) M) (fun r_1 M_2 => (if zz_bit r_1 = true then some (r_1, M_2) else none))
set_option maxRecDepth 100000 in
set_option maxHeartbeats 4000000 in
theorem m_X8_isKind (l : Launch) (E : zz_E) (x0 : Int32)  (M : zz_M) : zz_Met (zz_pi E) l yX8_isKind wsX8_isKind 2 E [.int x0] M (f_X8_isKind x0 M) := by
  refine zz_met (cc := cX8_isKind) (nL := 1) (ret := (some .boolean)) (by decide) rfl (Nat.le_of_ble_eq_true rfl) ?_
  intro p e s m below meth c C hr ls hl
  have C : zz_C E RX8 cX8_isKind 1 wsX8_isKind p s m [.int x0].toArray meth c := C
  have hl : lv_has ls 1 [(0, .int x0)] := hl
  unfold f_X8_isKind
  refine zz_iload_n C dX8_isKind_0 rfl (lv_at hl 0 rfl) ?_
  refine zz_iconst (v := 0) C dX8_isKind_1 (by decide) ?_
  refine zz_iconst (v := 5) C dX8_isKind_2 (by decide) ?_
  refine zz_callSi (As := [.int x0, .int (0 : Int32), .int (5 : Int32)]) (rest := []) C (m_X8_within l E x0 (0 : Int32) (5 : Int32)  M) (va_cwS 3 C.1.2.2.2.2 gX8_isKind_X8_within rfl rfl rfl hdS_X8_within ⟨Nat.le_of_ble_eq_true rfl, Nat.le_of_ble_eq_true rfl⟩) rfl hl.1 rfl (Nat.le_of_ble_eq_true rfl) dX8_isKind_3 (fun r_1 M_2 => ?_)
  exact zz_zret C hr dX8_isKind_6
-- X8_isSheet ('X8', 'isSheet', '(I)Z')
def f_X8_isSheet (x0 : Int32) (M : zz_M) : Option (Int32 × zz_M) := zz_bd (f_X8_within x0 (0 : Int32) (3 : Int32) M) (fun r_1 M_2 => (if zz_bit r_1 = true then some (r_1, M_2) else none))
set_option maxRecDepth 100000 in
set_option maxHeartbeats 4000000 in
theorem m_X8_isSheet (l : Launch) (E : zz_E) (x0 : Int32)  (M : zz_M) : zz_Met (zz_pi E) l yX8_isSheet wsX8_isSheet 2 E [.int x0] M (f_X8_isSheet x0 M) := by
  refine zz_met (cc := cX8_isSheet) (nL := 1) (ret := (some .boolean)) (by decide) rfl (Nat.le_of_ble_eq_true rfl) ?_
  intro p e s m below meth c C hr ls hl
  have C : zz_C E RX8 cX8_isSheet 1 wsX8_isSheet p s m [.int x0].toArray meth c := C
  have hl : lv_has ls 1 [(0, .int x0)] := hl
  unfold f_X8_isSheet
  refine zz_iload_n C dX8_isSheet_0 rfl (lv_at hl 0 rfl) ?_
  refine zz_iconst (v := 0) C dX8_isSheet_1 (by decide) ?_
  refine zz_iconst (v := 3) C dX8_isSheet_2 (by decide) ?_
  refine zz_callSi (As := [.int x0, .int (0 : Int32), .int (3 : Int32)]) (rest := []) C (m_X8_within l E x0 (0 : Int32) (3 : Int32)  M) (va_cwS 3 C.1.2.2.2.2 gX8_isSheet_X8_within rfl rfl rfl hdS_X8_within ⟨Nat.le_of_ble_eq_true rfl, Nat.le_of_ble_eq_true rfl⟩) rfl hl.1 rfl (Nat.le_of_ble_eq_true rfl) dX8_isSheet_3 (fun r_1 M_2 => ?_)
  exact zz_zret C hr dX8_isSheet_6
-- X8_isUnder ('X8', 'isUnder', '(II)Z')
theorem hdS_X8_isKind : yX8_isKind.cls ≠ "java/lang/invoke/MethodHandle" ∧ yX8_isKind.cls ≠ "java/lang/invoke/VarHandle" ∧ (parseMethodDescriptor yX8_isKind.desc).map (fun d => d.parameters.length) = some 1 := by decide +kernel
def b_X8_isUnder_4 : Nat → Int32 → Int32 → Int32 → zz_M → Option (Int32 × zz_M)
  | 0 => fun _ _ _ _ => none
  | n + 1 => fun x1 x2 x3 M => (if (6 : Int32) ≤ x3 then some ((0 : Int32), M) else zz_bd (f_X8_isKind x2 M) (fun r_2 M_3 => (if r_2 = 0 then some ((0 : Int32), M_3) else (if x2 = x1 then some ((1 : Int32), M_3) else (if zz_in x2 6 = true then zz_w (zz_kab.getD (zz_n x2) 0) (fun x2_6 => zz_w (x3 + (1 : Int32)) (fun x3_7 => (b_X8_isUnder_4 n) x1 x2_6 x3_7 M_3)) else none)))))
set_option maxRecDepth 100000 in
set_option maxHeartbeats 4000000 in
theorem wb_X8_isUnder_4 {p : Program} {l : Launch} {e : Env} {s : State} {m : MethodId} {args : Array Value} {below : List Frame} {meth : Method} {c : Code} {E : zz_E} (C : zz_C E RX8 cX8_isUnder 4 wsX8_isUnder p s m args meth c) (hr : meth.sig.returnType = (some .boolean)) : ∀ (n : Nat) (x1 : Int32) (x2 : Int32) (x3 : Int32)  (M : zz_M) (ls : Array Slot), lv_has ls 4 [(1, .int x1), (2, .int x2), (3, .int x3)] → zz_Z E p l e (zz_rm 3) s m args below meth c (zz_Q (zz_pi E) E below args s) (b_X8_isUnder_4 n x1 x2 x3 M) M (F0 m 4 ls []) := by
  intro n
  induction n with
  | zero => intro x1 x2 x3  M ls hl; exact zz_none
  | succ n ih =>
    intro x1 x2 x3  M ls hl
    rw [b_X8_isUnder_4]
    refine zz_iload_n C dX8_isUnder_4 rfl (lv_at hl 2 rfl) ?_
    refine zz_bipush (v := 6) C dX8_isUnder_5 (by decide) ?_
    refine zz_icmp_ge (tgt := 36) C dX8_isUnder_7 (by decide) (fun c_1 => ?_) (fun c_1 => ?_)
    · refine zz_iconst (v := 0) C dX8_isUnder_36 (by decide) ?_
      exact zz_zretl C (v := (0 : Int32)) rfl hr dX8_isUnder_37
    · refine zz_iload_n C dX8_isUnder_10 rfl (lv_at hl 1 rfl) ?_
      refine zz_callSi (As := [.int x2]) (rest := []) C (m_X8_isKind l E x2  M) (va_cwS 1 C.1.2.2.2.2 gX8_isUnder_X8_isKind rfl rfl rfl hdS_X8_isKind ⟨Nat.le_of_ble_eq_true rfl, Nat.le_of_ble_eq_true rfl⟩) rfl hl.1 rfl (Nat.le_of_ble_eq_true rfl) dX8_isUnder_11 (fun r_2 M_3 => ?_)
      refine zz_if_eq (tgt := 36) C dX8_isUnder_14 (by decide) (fun c_4 => ?_) (fun c_4 => ?_)
      · refine zz_iconst (v := 0) C dX8_isUnder_36 (by decide) ?_
        exact zz_zretl C (v := (0 : Int32)) rfl hr dX8_isUnder_37
      · refine zz_iload_n C dX8_isUnder_17 rfl (lv_at hl 1 rfl) ?_
        refine zz_iload_n C dX8_isUnder_18 rfl (lv_at hl 0 rfl) ?_
        refine zz_icmp_ne (tgt := 24) C dX8_isUnder_19 (by decide) (fun c_5 => ?_) (fun c_5 => ?_)
        · refine zz_iconst (v := 1) C dX8_isUnder_22 (by decide) ?_
          exact zz_zretl C (v := (1 : Int32)) rfl hr dX8_isUnder_23
        · refine zz_gets1 C (List.mem_of_getElem? (i := 1) rfl) dX8_isUnder_24 ?_
          refine zz_iload_n C dX8_isUnder_27 rfl (lv_at hl 1 rfl) ?_
          refine zz_tld1 C dX8_isUnder_28 ?_
          refine zz_istore_n C (fun x2_6 => [(2, .int x2_6), (1, .int x1), (3, .int x3)]) dX8_isUnder_29 rfl hl (by decide) (fun _ => rfl) (fun x2_6 ls hl => ?_)
          refine zz_iinc (k9 := 2) (d := 1) C (fun x3_7 => [(3, .int x3_7), (2, .int x2_6), (1, .int x1)]) dX8_isUnder_30 hl rfl (by decide) (by decide) (fun _ => rfl) (fun x3_7 ls hl => ?_)
          refine zz_goto (tgt := 4) C dX8_isUnder_33 (by decide) ?_
          exact ih x1 x2_6 x3_7  M_3 ls (lv_sub hl [2, 1, 0] rfl)
def f_X8_isUnder (x0 : Int32) (x1 : Int32) (M : zz_M) : Option (Int32 × zz_M) := b_X8_isUnder_4  zz_fuel x1 x0 (0 : Int32) M
set_option maxRecDepth 100000 in
set_option maxHeartbeats 4000000 in
theorem m_X8_isUnder (l : Launch) (E : zz_E) (x0 : Int32) (x1 : Int32)  (M : zz_M) : zz_Met (zz_pi E) l yX8_isUnder wsX8_isUnder 3 E [.int x0, .int x1] M (f_X8_isUnder x0 x1 M) := by
  refine zz_met (cc := cX8_isUnder) (nL := 4) (ret := (some .boolean)) (by decide) rfl (Nat.le_of_ble_eq_true rfl) ?_
  intro p e s m below meth c C hr ls hl
  have C : zz_C E RX8 cX8_isUnder 4 wsX8_isUnder p s m [.int x0, .int x1].toArray meth c := C
  have hl : lv_has ls 4 [(0, .int x0), (1, .int x1)] := hl
  unfold f_X8_isUnder
  refine zz_iload_n C dX8_isUnder_0 rfl (lv_at hl 0 rfl) ?_
  refine zz_istored_n (lv' := [(2, .int x0), (0, .int x0), (1, .int x1)]) C dX8_isUnder_1 rfl hl (by decide) rfl (fun ls hl => ?_)
  refine zz_iconst (v := 0) C dX8_isUnder_2 (by decide) ?_
  refine zz_istored_n (lv' := [(3, .int (0 : Int32)), (2, .int x0), (0, .int x0), (1, .int x1)]) C dX8_isUnder_3 rfl hl (by decide) rfl (fun ls hl => ?_)
  exact wb_X8_isUnder_4 C hr  zz_fuel x1 x0 (0 : Int32)  M ls (lv_sub hl [3, 1, 0] rfl)
-- X4_append ('X4', 'append', '(I)V')
theorem in_X4_append_X4 : ∀ w ∈ u_ws RX4 TX4 2, w ∈ wsX4_append := fun _ h => List.mem_cons_of_mem _ (List.mem_append_right _ h)
def f_X4_append (a0 : Nat) (x1 : Int32) (M : zz_M) : Option (Unit × zz_M) := (if (120 : Int32) ≤ (zz_i M a0 1) then some ((), M) else (if zz_in (zz_i M a0 1) 120 = true then zz_w (zz_si M (a0 + 1) (zz_n (zz_i M a0 1)) x1) (fun M_2 => zz_w (zz_si M_2 a0 1 ((zz_i M_2 a0 1) + (1 : Int32))) (fun M_3 => some ((), M_3))) else none))
set_option maxRecDepth 100000 in
set_option maxHeartbeats 4000000 in
theorem m_X4_append (l : Launch) (E : zz_E) (a0 : Nat) (x1 : Int32) (h0 : zz_sh a0 = 4) (M : zz_M) : zz_Met (zz_pv E) l yX4_append wsX4_append 1 E [.ref (E.1 + a0), .int x1] M (f_X4_append a0 x1 M) := by
  refine zz_met (cc := cX4_append) (nL := 2) (ret := none) (by decide) rfl (Nat.le_of_ble_eq_true rfl) ?_
  intro p e s m below meth c C hr ls hl
  have C : zz_C E RX4 cX4_append 2 wsX4_append p s m [.ref (E.1 + a0), .int x1].toArray meth c := C
  have hl : lv_has ls 2 [(0, .ref (E.1 + a0)), (1, .int x1)] := hl
  unfold f_X4_append
  refine zz_aload_n C dX4_append_0 rfl (lv_at hl 0 rfl) ?_
  refine zz_get C (zz_lt h0 (by decide)) (zz_c4 h0) rfl in_X4_append_X4 1 (by decide) (List.mem_of_getElem? (i := 1) rfl) rfl dX4_append_1 ?_
  refine zz_bipush (v := 120) C dX4_append_4 (by decide) ?_
  refine zz_icmp_ge (tgt := 29) C dX4_append_6 (by decide) (fun c_1 => ?_) (fun c_1 => ?_)
  · exact zz_vret C hr dX4_append_29
  · refine zz_aload_n C dX4_append_9 rfl (lv_at hl 0 rfl) ?_
    refine zz_get C (zz_lt h0 (by decide)) (zz_c4 h0) rfl in_X4_append_X4 0 (by decide) (List.mem_of_getElem? (i := 2) rfl) rfl dX4_append_10 ?_
    refine zz_aload_n C dX4_append_13 rfl (lv_at hl 0 rfl) ?_
    refine zz_get C (zz_lt h0 (by decide)) (zz_c4 h0) rfl in_X4_append_X4 1 (by decide) (List.mem_of_getElem? (i := 1) rfl) rfl dX4_append_14 ?_
    refine zz_iload_n C dX4_append_17 rfl (lv_at hl 1 rfl) ?_
    refine zz_iast C (zz_lt (zz_s4_0 h0) (by decide)) (fun _ => zz_c11 (zz_s4_0 h0)) dX4_append_18 (fun M_2 => ?_)
    refine zz_aload_n C dX4_append_19 rfl (lv_at hl 0 rfl) ?_
    refine zz_dup C dX4_append_20 rfl ?_
    refine zz_get C (zz_lt h0 (by decide)) (zz_c4 h0) rfl in_X4_append_X4 1 (by decide) (List.mem_of_getElem? (i := 1) rfl) rfl dX4_append_21 ?_
    refine zz_iconst (v := 1) C dX4_append_24 (by decide) ?_
    refine zz_iadd C dX4_append_25 ?_
    refine zz_put (M1 := zz_si M_2 a0 1 ((zz_i M_2 a0 1) + (1 : Int32))) C (zz_lt h0 (by decide)) (zz_c4 h0) rfl in_X4_append_X4 tyX4 tyX4_ok nmX4 1 (by decide) (List.mem_of_getElem? (i := 1) rfl) rfl rfl rfl (Nat.le_of_ble_eq_true rfl) (zz_p4_1 h0) zz_cell_si dX4_append_26 (fun M_3 => ?_)
    exact zz_vret C hr dX4_append_29
-- X6_become ('X6', 'become', '(LFortyDips$Vat;)V')
theorem in_X6_become_X6 : ∀ w ∈ u_ws RX6 TX6 4, w ∈ wsX6_become := fun _ h => List.mem_cons_of_mem _ (List.mem_append_right _ h)
def f_X6_become (a0 : Nat) (a1 : Nat) (M : zz_M) : Option (Unit × zz_M) := (if zz_bit (zz_i M a1 0) = true then zz_w (zz_si M a0 0 (zz_i M a1 0)) (fun M_1 => zz_w (zz_si M_1 a0 1 (zz_i M_1 a1 1)) (fun M_2 => zz_w (zz_si M_2 a0 2 (zz_i M_2 a1 2)) (fun M_3 => (if zz_bit (zz_i M_3 a1 3) = true then zz_w (zz_si M_3 a0 3 (zz_i M_3 a1 3)) (fun M_4 => some ((), M_4)) else none)))) else none)
set_option maxRecDepth 100000 in
set_option maxHeartbeats 4000000 in
theorem m_X6_become (l : Launch) (E : zz_E) (a0 : Nat) (a1 : Nat) (h0 : zz_sh a0 = 6) (h1 : zz_sh a1 = 6) (M : zz_M) : zz_Met (zz_pv E) l yX6_become wsX6_become 1 E [.ref (E.1 + a0), .ref (E.1 + a1)] M (f_X6_become a0 a1 M) := by
  refine zz_met (cc := cX6_become) (nL := 2) (ret := none) (by decide) rfl (Nat.le_of_ble_eq_true rfl) ?_
  intro p e s m below meth c C hr ls hl
  have C : zz_C E RX6 cX6_become 2 wsX6_become p s m [.ref (E.1 + a0), .ref (E.1 + a1)].toArray meth c := C
  have hl : lv_has ls 2 [(0, .ref (E.1 + a0)), (1, .ref (E.1 + a1))] := hl
  unfold f_X6_become
  refine zz_aload_n C dX6_become_0 rfl (lv_at hl 0 rfl) ?_
  refine zz_aload_n C dX6_become_1 rfl (lv_at hl 1 rfl) ?_
  refine zz_get C (zz_lt h1 (by decide)) (zz_c6 h1) rfl in_X6_become_X6 0 (by decide) (List.mem_of_getElem? (i := 1) rfl) rfl dX6_become_2 ?_
  refine zz_guard (fun b_6 => ?_)
  refine zz_put (M1 := zz_si M a0 0 (zz_i M a1 0)) C (zz_lt h0 (by decide)) (zz_c6 h0) rfl in_X6_become_X6 tyX6 tyX6_ok nmX6 0 (by decide) (List.mem_of_getElem? (i := 1) rfl) rfl (zz_nb b_6) (zz_fb b_6) (Nat.le_of_ble_eq_true rfl) (zz_p6_0 h0) zz_cell_si dX6_become_5 (fun M_1 => ?_)
  refine zz_aload_n C dX6_become_8 rfl (lv_at hl 0 rfl) ?_
  refine zz_aload_n C dX6_become_9 rfl (lv_at hl 1 rfl) ?_
  refine zz_get C (zz_lt h1 (by decide)) (zz_c6 h1) rfl in_X6_become_X6 1 (by decide) (List.mem_of_getElem? (i := 2) rfl) rfl dX6_become_10 ?_
  refine zz_put (M1 := zz_si M_1 a0 1 (zz_i M_1 a1 1)) C (zz_lt h0 (by decide)) (zz_c6 h0) rfl in_X6_become_X6 tyX6 tyX6_ok nmX6 1 (by decide) (List.mem_of_getElem? (i := 2) rfl) rfl rfl rfl (Nat.le_of_ble_eq_true rfl) (zz_p6_1 h0) zz_cell_si dX6_become_13 (fun M_2 => ?_)
  refine zz_aload_n C dX6_become_16 rfl (lv_at hl 0 rfl) ?_
  refine zz_aload_n C dX6_become_17 rfl (lv_at hl 1 rfl) ?_
  refine zz_get C (zz_lt h1 (by decide)) (zz_c6 h1) rfl in_X6_become_X6 2 (by decide) (List.mem_of_getElem? (i := 3) rfl) rfl dX6_become_18 ?_
  refine zz_put (M1 := zz_si M_2 a0 2 (zz_i M_2 a1 2)) C (zz_lt h0 (by decide)) (zz_c6 h0) rfl in_X6_become_X6 tyX6 tyX6_ok nmX6 2 (by decide) (List.mem_of_getElem? (i := 3) rfl) rfl rfl rfl (Nat.le_of_ble_eq_true rfl) (zz_p6_2 h0) zz_cell_si dX6_become_21 (fun M_3 => ?_)
  refine zz_aload_n C dX6_become_24 rfl (lv_at hl 0 rfl) ?_
  refine zz_aload_n C dX6_become_25 rfl (lv_at hl 1 rfl) ?_
  refine zz_get C (zz_lt h1 (by decide)) (zz_c6 h1) rfl in_X6_become_X6 3 (by decide) (List.mem_of_getElem? (i := 4) rfl) rfl dX6_become_26 ?_
  refine zz_guard (fun b_5 => ?_)
  refine zz_put (M1 := zz_si M_3 a0 3 (zz_i M_3 a1 3)) C (zz_lt h0 (by decide)) (zz_c6 h0) rfl in_X6_become_X6 tyX6 tyX6_ok nmX6 3 (by decide) (List.mem_of_getElem? (i := 4) rfl) rfl (zz_nb b_5) (zz_fb b_5) (Nat.le_of_ble_eq_true rfl) (zz_p6_3 h0) zz_cell_si dX6_become_29 (fun M_4 => ?_)
  exact zz_vret C hr dX6_become_32
-- X6_part ('X6', 'part', '(I)I')
theorem in_X6_part_X6 : ∀ w ∈ u_ws RX6 TX6 4, w ∈ wsX6_part := fun _ h => List.mem_cons_of_mem _ (List.mem_append_right _ h)
def f_X6_part (a0 : Nat) (x1 : Int32) (M : zz_M) : Option (Int32 × zz_M) := (if x1 = (0 : Int32) then (if (zz_i M a0 0) = 0 then some ((0 : Int32), M) else some ((1 : Int32), M)) else (if x1 = (1 : Int32) then some ((zz_i M a0 1), M) else (if x1 = (2 : Int32) then some ((zz_i M a0 2), M) else (if (zz_i M a0 3) = 0 then some ((0 : Int32), M) else some ((1 : Int32), M)))))
set_option maxRecDepth 100000 in
set_option maxHeartbeats 4000000 in
theorem m_X6_part (l : Launch) (E : zz_E) (a0 : Nat) (x1 : Int32) (h0 : zz_sh a0 = 6) (M : zz_M) : zz_Met (zz_pi E) l yX6_part wsX6_part 1 E [.ref (E.1 + a0), .int x1] M (f_X6_part a0 x1 M) := by
  refine zz_met (cc := cX6_part) (nL := 2) (ret := (some .int)) (by decide) rfl (Nat.le_of_ble_eq_true rfl) ?_
  intro p e s m below meth c C hr ls hl
  have C : zz_C E RX6 cX6_part 2 wsX6_part p s m [.ref (E.1 + a0), .int x1].toArray meth c := C
  have hl : lv_has ls 2 [(0, .ref (E.1 + a0)), (1, .int x1)] := hl
  unfold f_X6_part
  refine zz_iload_n C dX6_part_0 rfl (lv_at hl 1 rfl) ?_
  refine zz_ite (fun c_1 => ?_) (fun c_1 => ?_)
  · refine zz_tabIn (tgt := 28) C dX6_part_1 (by rw [c_1]; decide) (by rw [c_1]; decide) (by rw [c_1]; rfl) (by decide) ?_
    refine zz_aload_n C dX6_part_28 rfl (lv_at hl 0 rfl) ?_
    refine zz_get C (zz_lt h0 (by decide)) (zz_c6 h0) rfl in_X6_part_X6 0 (by decide) (List.mem_of_getElem? (i := 1) rfl) rfl dX6_part_29 ?_
    refine zz_if_eq (tgt := 39) C dX6_part_32 (by decide) (fun c_2 => ?_) (fun c_2 => ?_)
    · refine zz_iconst (v := 0) C dX6_part_39 (by decide) ?_
      exact zz_iret C hr dX6_part_40
    · refine zz_iconst (v := 1) C dX6_part_35 (by decide) ?_
      refine zz_goto (tgt := 40) C dX6_part_36 (by decide) ?_
      exact zz_iret C hr dX6_part_40
  · refine zz_ite (fun c_3 => ?_) (fun c_3 => ?_)
    · refine zz_tabIn (tgt := 41) C dX6_part_1 (by rw [c_3]; decide) (by rw [c_3]; decide) (by rw [c_3]; rfl) (by decide) ?_
      refine zz_aload_n C dX6_part_41 rfl (lv_at hl 0 rfl) ?_
      refine zz_get C (zz_lt h0 (by decide)) (zz_c6 h0) rfl in_X6_part_X6 1 (by decide) (List.mem_of_getElem? (i := 2) rfl) rfl dX6_part_42 ?_
      exact zz_iret C hr dX6_part_45
    · refine zz_ite (fun c_4 => ?_) (fun c_4 => ?_)
      · refine zz_tabIn (tgt := 46) C dX6_part_1 (by rw [c_4]; decide) (by rw [c_4]; decide) (by rw [c_4]; rfl) (by decide) ?_
        refine zz_aload_n C dX6_part_46 rfl (lv_at hl 0 rfl) ?_
        refine zz_get C (zz_lt h0 (by decide)) (zz_c6 h0) rfl in_X6_part_X6 2 (by decide) (List.mem_of_getElem? (i := 3) rfl) rfl dX6_part_47 ?_
        exact zz_iret C hr dX6_part_50
      · refine zz_tabOut (tgt := 51) C dX6_part_1 (by have q0 : x1.toInt ≠ 0 := zz_ne c_1; have q1 : x1.toInt ≠ 1 := zz_ne c_3; have q2 : x1.toInt ≠ 2 := zz_ne c_4; omega) (by decide) ?_
        refine zz_aload_n C dX6_part_51 rfl (lv_at hl 0 rfl) ?_
        refine zz_get C (zz_lt h0 (by decide)) (zz_c6 h0) rfl in_X6_part_X6 3 (by decide) (List.mem_of_getElem? (i := 4) rfl) rfl dX6_part_52 ?_
        refine zz_if_eq (tgt := 62) C dX6_part_55 (by decide) (fun c_5 => ?_) (fun c_5 => ?_)
        · refine zz_iconst (v := 0) C dX6_part_62 (by decide) ?_
          exact zz_iret C hr dX6_part_63
        · refine zz_iconst (v := 1) C dX6_part_58 (by decide) ?_
          refine zz_goto (tgt := 63) C dX6_part_59 (by decide) ?_
          exact zz_iret C hr dX6_part_63
-- X6_setPart ('X6', 'setPart', '(II)V')
theorem in_X6_setPart_X6 : ∀ w ∈ u_ws RX6 TX6 4, w ∈ wsX6_setPart := fun _ h => List.mem_cons_of_mem _ (List.mem_append_right _ h)
def b_X6_setPart_39 (st0 : Int32) (rt1 : Nat) (M : zz_M) : Option (Unit × zz_M) := (if zz_bit st0 = true then zz_w (zz_si M rt1 0 st0) (fun M_10 => some ((), M_10)) else none)
set_option maxRecDepth 100000 in
set_option maxHeartbeats 4000000 in
theorem wb_X6_setPart_39 {p : Program} {l : Launch} {e : Env} {s : State} {m : MethodId} {args : Array Value} {below : List Frame} {meth : Method} {c : Code} {E : zz_E} (C : zz_C E RX6 cX6_setPart 3 wsX6_setPart p s m args meth c) (hr : meth.sig.returnType = none) : ∀ (st0 : Int32) (rt1 : Nat) (hrt1 : zz_sh rt1 = 6) (M : zz_M) (ls : Array Slot), lv_has ls 3 [] → zz_Z E p l e (zz_rm 1) s m args below meth c (zz_Q (zz_pv E) E below args s) (b_X6_setPart_39 st0 rt1 M) M (F0 m 39 ls [.int st0, .ref (E.1 + rt1)]) := by
  intro st0 rt1 hrt1 M ls hl
  unfold b_X6_setPart_39
  refine zz_guard (fun b_11 => ?_)
  refine zz_put (M1 := zz_si M rt1 0 st0) C (zz_lt hrt1 (by decide)) (zz_c6 hrt1) rfl in_X6_setPart_X6 tyX6 tyX6_ok nmX6 0 (by decide) (List.mem_of_getElem? (i := 1) rfl) rfl (zz_nb b_11) (zz_fb b_11) (Nat.le_of_ble_eq_true rfl) (zz_p6_0 hrt1) zz_cell_si dX6_setPart_39 (fun M_10 => ?_)
  refine zz_goto (tgt := 75) C dX6_setPart_42 (by decide) ?_
  exact zz_vret C hr dX6_setPart_75
def f_X6_setPart (a0 : Nat) (x1 : Int32) (x2 : Int32) (M : zz_M) : Option (Unit × zz_M) := (if x1 = (0 : Int32) then (if x2 = (1 : Int32) then b_X6_setPart_39   (1 : Int32) a0 M else b_X6_setPart_39   (0 : Int32) a0 M) else (if x1 = (1 : Int32) then zz_w (zz_si M a0 1 x2) (fun M_4 => some ((), M_4)) else (if x1 = (2 : Int32) then zz_w (zz_si M a0 2 x2) (fun M_6 => some ((), M_6)) else (if x2 = (1 : Int32) then zz_w (zz_si M a0 3 (1 : Int32)) (fun M_9 => some ((), M_9)) else zz_w (zz_si M a0 3 (0 : Int32)) (fun M_8 => some ((), M_8))))))
set_option maxRecDepth 100000 in
set_option maxHeartbeats 4000000 in
theorem m_X6_setPart (l : Launch) (E : zz_E) (a0 : Nat) (x1 : Int32) (x2 : Int32) (h0 : zz_sh a0 = 6) (M : zz_M) : zz_Met (zz_pv E) l yX6_setPart wsX6_setPart 1 E [.ref (E.1 + a0), .int x1, .int x2] M (f_X6_setPart a0 x1 x2 M) := by
  refine zz_met (cc := cX6_setPart) (nL := 3) (ret := none) (by decide) rfl (Nat.le_of_ble_eq_true rfl) ?_
  intro p e s m below meth c C hr ls hl
  have C : zz_C E RX6 cX6_setPart 3 wsX6_setPart p s m [.ref (E.1 + a0), .int x1, .int x2].toArray meth c := C
  have hl : lv_has ls 3 [(0, .ref (E.1 + a0)), (1, .int x1), (2, .int x2)] := hl
  unfold f_X6_setPart
  refine zz_iload_n C dX6_setPart_0 rfl (lv_at hl 1 rfl) ?_
  refine zz_ite (fun c_1 => ?_) (fun c_1 => ?_)
  · refine zz_tabIn (tgt := 28) C dX6_setPart_1 (by rw [c_1]; decide) (by rw [c_1]; decide) (by rw [c_1]; rfl) (by decide) ?_
    refine zz_aload_n C dX6_setPart_28 rfl (lv_at hl 0 rfl) ?_
    refine zz_iload_n C dX6_setPart_29 rfl (lv_at hl 2 rfl) ?_
    refine zz_iconst (v := 1) C dX6_setPart_30 (by decide) ?_
    refine zz_icmp_ne (tgt := 38) C dX6_setPart_31 (by decide) (fun c_2 => ?_) (fun c_2 => ?_)
    · refine zz_iconst (v := 1) C dX6_setPart_34 (by decide) ?_
      refine zz_goto (tgt := 39) C dX6_setPart_35 (by decide) ?_
      exact wb_X6_setPart_39 C hr   (1 : Int32) a0 h0 M ls (lv_sub hl [] rfl)
    · refine zz_iconst (v := 0) C dX6_setPart_38 (by decide) ?_
      exact wb_X6_setPart_39 C hr   (0 : Int32) a0 h0 M ls (lv_sub hl [] rfl)
  · refine zz_ite (fun c_3 => ?_) (fun c_3 => ?_)
    · refine zz_tabIn (tgt := 45) C dX6_setPart_1 (by rw [c_3]; decide) (by rw [c_3]; decide) (by rw [c_3]; rfl) (by decide) ?_
      refine zz_aload_n C dX6_setPart_45 rfl (lv_at hl 0 rfl) ?_
      refine zz_iload_n C dX6_setPart_46 rfl (lv_at hl 2 rfl) ?_
      refine zz_put (M1 := zz_si M a0 1 x2) C (zz_lt h0 (by decide)) (zz_c6 h0) rfl in_X6_setPart_X6 tyX6 tyX6_ok nmX6 1 (by decide) (List.mem_of_getElem? (i := 2) rfl) rfl rfl rfl (Nat.le_of_ble_eq_true rfl) (zz_p6_1 h0) zz_cell_si dX6_setPart_47 (fun M_4 => ?_)
      refine zz_goto (tgt := 75) C dX6_setPart_50 (by decide) ?_
      exact zz_vret C hr dX6_setPart_75
    · refine zz_ite (fun c_5 => ?_) (fun c_5 => ?_)
      · refine zz_tabIn (tgt := 53) C dX6_setPart_1 (by rw [c_5]; decide) (by rw [c_5]; decide) (by rw [c_5]; rfl) (by decide) ?_
        refine zz_aload_n C dX6_setPart_53 rfl (lv_at hl 0 rfl) ?_
        refine zz_iload_n C dX6_setPart_54 rfl (lv_at hl 2 rfl) ?_
        refine zz_put (M1 := zz_si M a0 2 x2) C (zz_lt h0 (by decide)) (zz_c6 h0) rfl in_X6_setPart_X6 tyX6 tyX6_ok nmX6 2 (by decide) (List.mem_of_getElem? (i := 3) rfl) rfl rfl rfl (Nat.le_of_ble_eq_true rfl) (zz_p6_2 h0) zz_cell_si dX6_setPart_55 (fun M_6 => ?_)
        refine zz_goto (tgt := 75) C dX6_setPart_58 (by decide) ?_
        exact zz_vret C hr dX6_setPart_75
      · refine zz_tabOut (tgt := 61) C dX6_setPart_1 (by have q0 : x1.toInt ≠ 0 := zz_ne c_1; have q1 : x1.toInt ≠ 1 := zz_ne c_3; have q2 : x1.toInt ≠ 2 := zz_ne c_5; omega) (by decide) ?_
        refine zz_aload_n C dX6_setPart_61 rfl (lv_at hl 0 rfl) ?_
        refine zz_iload_n C dX6_setPart_62 rfl (lv_at hl 2 rfl) ?_
        refine zz_iconst (v := 1) C dX6_setPart_63 (by decide) ?_
        refine zz_icmp_ne (tgt := 71) C dX6_setPart_64 (by decide) (fun c_7 => ?_) (fun c_7 => ?_)
        · refine zz_iconst (v := 1) C dX6_setPart_67 (by decide) ?_
          refine zz_goto (tgt := 72) C dX6_setPart_68 (by decide) ?_
          refine zz_put (M1 := zz_si M a0 3 (1 : Int32)) C (zz_lt h0 (by decide)) (zz_c6 h0) rfl in_X6_setPart_X6 tyX6 tyX6_ok nmX6 3 (by decide) (List.mem_of_getElem? (i := 4) rfl) rfl (zz_nb (v := (1 : Int32)) rfl) (zz_fb (v := (1 : Int32)) rfl) (Nat.le_of_ble_eq_true rfl) (zz_p6_3 h0) zz_cell_si dX6_setPart_72 (fun M_9 => ?_)
          exact zz_vret C hr dX6_setPart_75
        · refine zz_iconst (v := 0) C dX6_setPart_71 (by decide) ?_
          refine zz_put (M1 := zz_si M a0 3 (0 : Int32)) C (zz_lt h0 (by decide)) (zz_c6 h0) rfl in_X6_setPart_X6 tyX6 tyX6_ok nmX6 3 (by decide) (List.mem_of_getElem? (i := 4) rfl) rfl (zz_nb (v := (0 : Int32)) rfl) (zz_fb (v := (0 : Int32)) rfl) (Nat.le_of_ble_eq_true rfl) (zz_p6_3 h0) zz_cell_si dX6_setPart_72 (fun M_8 => ?_)
          exact zz_vret C hr dX6_setPart_75
-- X6_pourOut ('X6', 'pourOut', '(I)I')
theorem in_X6_pourOut_X6 : ∀ w ∈ u_ws RX6 TX6 4, w ∈ wsX6_pourOut := fun _ h => List.mem_cons_of_mem _ (List.mem_append_right _ h)
def f_X6_pourOut (a0 : Nat) (x1 : Int32) (M : zz_M) : Option (Int32 × zz_M) := zz_w (if (zz_i M a0 2) < x1 then (zz_i M a0 2) else x1) (fun x2_1 => zz_w (zz_si M a0 2 ((zz_i M a0 2) - x2_1)) (fun M_2 => some (x2_1, M_2)))
set_option maxRecDepth 100000 in
set_option maxHeartbeats 4000000 in
theorem m_X6_pourOut (l : Launch) (E : zz_E) (a0 : Nat) (x1 : Int32) (h0 : zz_sh a0 = 6) (M : zz_M) : zz_Met (zz_pi E) l yX6_pourOut wsX6_pourOut 1 E [.ref (E.1 + a0), .int x1] M (f_X6_pourOut a0 x1 M) := by
  refine zz_met (cc := cX6_pourOut) (nL := 3) (ret := (some .int)) (by decide) rfl (Nat.le_of_ble_eq_true rfl) ?_
  intro p e s m below meth c C hr ls hl
  have C : zz_C E RX6 cX6_pourOut 3 wsX6_pourOut p s m [.ref (E.1 + a0), .int x1].toArray meth c := C
  have hl : lv_has ls 3 [(0, .ref (E.1 + a0)), (1, .int x1)] := hl
  unfold f_X6_pourOut
  refine zz_iload_n C dX6_pourOut_0 rfl (lv_at hl 1 rfl) ?_
  refine zz_aload_n C dX6_pourOut_1 rfl (lv_at hl 0 rfl) ?_
  refine zz_get C (zz_lt h0 (by decide)) (zz_c6 h0) rfl in_X6_pourOut_X6 2 (by decide) (List.mem_of_getElem? (i := 1) rfl) rfl dX6_pourOut_2 ?_
  refine zz_mmin C hl.1 (List.mem_of_getElem? (i := 2) rfl) (List.mem_of_getElem? (i := 3) rfl) (List.mem_of_getElem? (i := 4) rfl) (List.mem_of_getElem? (i := 5) rfl) (Nat.le_of_ble_eq_true rfl) (Nat.le_of_ble_eq_true rfl) dX6_pourOut_5 ?_
  refine zz_istore_n C (fun x2_1 => [(2, .int x2_1), (0, .ref (E.1 + a0)), (1, .int x1)]) dX6_pourOut_8 rfl hl (by decide) (fun _ => rfl) (fun x2_1 ls hl => ?_)
  refine zz_aload_n C dX6_pourOut_9 rfl (lv_at hl 1 rfl) ?_
  refine zz_dup C dX6_pourOut_10 rfl ?_
  refine zz_get C (zz_lt h0 (by decide)) (zz_c6 h0) rfl in_X6_pourOut_X6 2 (by decide) (List.mem_of_getElem? (i := 1) rfl) rfl dX6_pourOut_11 ?_
  refine zz_iload_n C dX6_pourOut_14 rfl (lv_at hl 0 rfl) ?_
  refine zz_isub C dX6_pourOut_15 ?_
  refine zz_put (M1 := zz_si M a0 2 ((zz_i M a0 2) - x2_1)) C (zz_lt h0 (by decide)) (zz_c6 h0) rfl in_X6_pourOut_X6 tyX6 tyX6_ok nmX6 2 (by decide) (List.mem_of_getElem? (i := 1) rfl) rfl rfl rfl (Nat.le_of_ble_eq_true rfl) (zz_p6_2 h0) zz_cell_si dX6_pourOut_16 (fun M_2 => ?_)
  refine zz_iload_n C dX6_pourOut_19 rfl (lv_at hl 0 rfl) ?_
  exact zz_iret C hr dX6_pourOut_20
-- X6_pourIn ('X6', 'pourIn', '(I)V')
theorem in_X6_pourIn_X6 : ∀ w ∈ u_ws RX6 TX6 4, w ∈ wsX6_pourIn := fun _ h => List.mem_cons_of_mem _ (List.mem_append_right _ h)
def f_X6_pourIn (a0 : Nat) (x1 : Int32) (M : zz_M) : Option (Unit × zz_M) := zz_w (zz_si M a0 2 (if ((zz_i M a0 2) + x1) < (99999 : Int32) then ((zz_i M a0 2) + x1) else (99999 : Int32))) (fun M_1 => some ((), M_1))
set_option maxRecDepth 100000 in
set_option maxHeartbeats 4000000 in
theorem m_X6_pourIn (l : Launch) (E : zz_E) (a0 : Nat) (x1 : Int32) (h0 : zz_sh a0 = 6) (M : zz_M) : zz_Met (zz_pv E) l yX6_pourIn wsX6_pourIn 1 E [.ref (E.1 + a0), .int x1] M (f_X6_pourIn a0 x1 M) := by
  refine zz_met (cc := cX6_pourIn) (nL := 2) (ret := none) (by decide) rfl (Nat.le_of_ble_eq_true rfl) ?_
  intro p e s m below meth c C hr ls hl
  have C : zz_C E RX6 cX6_pourIn 2 wsX6_pourIn p s m [.ref (E.1 + a0), .int x1].toArray meth c := C
  have hl : lv_has ls 2 [(0, .ref (E.1 + a0)), (1, .int x1)] := hl
  unfold f_X6_pourIn
  refine zz_aload_n C dX6_pourIn_0 rfl (lv_at hl 0 rfl) ?_
  refine zz_ldc (v := 99999) C (List.mem_of_getElem? (i := 1) rfl) dX6_pourIn_1 ?_
  refine zz_aload_n C dX6_pourIn_3 rfl (lv_at hl 0 rfl) ?_
  refine zz_get C (zz_lt h0 (by decide)) (zz_c6 h0) rfl in_X6_pourIn_X6 2 (by decide) (List.mem_of_getElem? (i := 2) rfl) rfl dX6_pourIn_4 ?_
  refine zz_iload_n C dX6_pourIn_7 rfl (lv_at hl 1 rfl) ?_
  refine zz_iadd C dX6_pourIn_8 ?_
  refine zz_mmin C hl.1 (List.mem_of_getElem? (i := 3) rfl) (List.mem_of_getElem? (i := 4) rfl) (List.mem_of_getElem? (i := 5) rfl) (List.mem_of_getElem? (i := 6) rfl) (Nat.le_of_ble_eq_true rfl) (Nat.le_of_ble_eq_true rfl) dX6_pourIn_9 ?_
  refine zz_put (M1 := zz_si M a0 2 (if ((zz_i M a0 2) + x1) < (99999 : Int32) then ((zz_i M a0 2) + x1) else (99999 : Int32))) C (zz_lt h0 (by decide)) (zz_c6 h0) rfl in_X6_pourIn_X6 tyX6 tyX6_ok nmX6 2 (by decide) (List.mem_of_getElem? (i := 2) rfl) rfl rfl rfl (Nat.le_of_ble_eq_true rfl) (zz_p6_2 h0) zz_cell_si dX6_pourIn_12 (fun M_1 => ?_)
  exact zz_vret C hr dX6_pourIn_15
-- X6_heat ('X6', 'heat', '()V')
theorem in_X6_heat_X6 : ∀ w ∈ u_ws RX6 TX6 4, w ∈ wsX6_heat := fun _ h => List.mem_cons_of_mem _ (List.mem_append_right _ h)
def f_X6_heat (a0 : Nat) (M : zz_M) : Option (Unit × zz_M) := zz_w (zz_si M a0 1 (if ((zz_i M a0 1) + (10 : Int32)) < (99 : Int32) then ((zz_i M a0 1) + (10 : Int32)) else (99 : Int32))) (fun M_1 => some ((), M_1))
set_option maxRecDepth 100000 in
set_option maxHeartbeats 4000000 in
theorem m_X6_heat (l : Launch) (E : zz_E) (a0 : Nat) (h0 : zz_sh a0 = 6) (M : zz_M) : zz_Met (zz_pv E) l yX6_heat wsX6_heat 1 E [.ref (E.1 + a0)] M (f_X6_heat a0 M) := by
  refine zz_met (cc := cX6_heat) (nL := 1) (ret := none) (by decide) rfl (Nat.le_of_ble_eq_true rfl) ?_
  intro p e s m below meth c C hr ls hl
  have C : zz_C E RX6 cX6_heat 1 wsX6_heat p s m [.ref (E.1 + a0)].toArray meth c := C
  have hl : lv_has ls 1 [(0, .ref (E.1 + a0))] := hl
  unfold f_X6_heat
  refine zz_aload_n C dX6_heat_0 rfl (lv_at hl 0 rfl) ?_
  refine zz_bipush (v := 99) C dX6_heat_1 (by decide) ?_
  refine zz_aload_n C dX6_heat_3 rfl (lv_at hl 0 rfl) ?_
  refine zz_get C (zz_lt h0 (by decide)) (zz_c6 h0) rfl in_X6_heat_X6 1 (by decide) (List.mem_of_getElem? (i := 1) rfl) rfl dX6_heat_4 ?_
  refine zz_bipush (v := 10) C dX6_heat_7 (by decide) ?_
  refine zz_iadd C dX6_heat_9 ?_
  refine zz_mmin C hl.1 (List.mem_of_getElem? (i := 2) rfl) (List.mem_of_getElem? (i := 3) rfl) (List.mem_of_getElem? (i := 4) rfl) (List.mem_of_getElem? (i := 5) rfl) (Nat.le_of_ble_eq_true rfl) (Nat.le_of_ble_eq_true rfl) dX6_heat_10 ?_
  refine zz_put (M1 := zz_si M a0 1 (if ((zz_i M a0 1) + (10 : Int32)) < (99 : Int32) then ((zz_i M a0 1) + (10 : Int32)) else (99 : Int32))) C (zz_lt h0 (by decide)) (zz_c6 h0) rfl in_X6_heat_X6 tyX6 tyX6_ok nmX6 1 (by decide) (List.mem_of_getElem? (i := 1) rfl) rfl rfl rfl (Nat.le_of_ble_eq_true rfl) (zz_p6_1 h0) zz_cell_si dX6_heat_13 (fun M_1 => ?_)
  exact zz_vret C hr dX6_heat_16
-- X6_cool ('X6', 'cool', '(I)V')
theorem in_X6_cool_X6 : ∀ w ∈ u_ws RX6 TX6 4, w ∈ wsX6_cool := fun _ h => List.mem_cons_of_mem _ (List.mem_append_right _ h)
def f_X6_cool (a0 : Nat) (x1 : Int32) (M : zz_M) : Option (Unit × zz_M) := zz_w (zz_si M a0 1 (if (0 : Int32) < ((zz_i M a0 1) - x1) then ((zz_i M a0 1) - x1) else (0 : Int32))) (fun M_1 => some ((), M_1))
set_option maxRecDepth 100000 in
set_option maxHeartbeats 4000000 in
theorem m_X6_cool (l : Launch) (E : zz_E) (a0 : Nat) (x1 : Int32) (h0 : zz_sh a0 = 6) (M : zz_M) : zz_Met (zz_pv E) l yX6_cool wsX6_cool 1 E [.ref (E.1 + a0), .int x1] M (f_X6_cool a0 x1 M) := by
  refine zz_met (cc := cX6_cool) (nL := 2) (ret := none) (by decide) rfl (Nat.le_of_ble_eq_true rfl) ?_
  intro p e s m below meth c C hr ls hl
  have C : zz_C E RX6 cX6_cool 2 wsX6_cool p s m [.ref (E.1 + a0), .int x1].toArray meth c := C
  have hl : lv_has ls 2 [(0, .ref (E.1 + a0)), (1, .int x1)] := hl
  unfold f_X6_cool
  refine zz_aload_n C dX6_cool_0 rfl (lv_at hl 0 rfl) ?_
  refine zz_iconst (v := 0) C dX6_cool_1 (by decide) ?_
  refine zz_aload_n C dX6_cool_2 rfl (lv_at hl 0 rfl) ?_
  refine zz_get C (zz_lt h0 (by decide)) (zz_c6 h0) rfl in_X6_cool_X6 1 (by decide) (List.mem_of_getElem? (i := 1) rfl) rfl dX6_cool_3 ?_
  refine zz_iload_n C dX6_cool_6 rfl (lv_at hl 1 rfl) ?_
  refine zz_isub C dX6_cool_7 ?_
  refine zz_mmax C hl.1 (List.mem_of_getElem? (i := 2) rfl) (List.mem_of_getElem? (i := 3) rfl) (List.mem_of_getElem? (i := 4) rfl) (List.mem_of_getElem? (i := 5) rfl) (Nat.le_of_ble_eq_true rfl) (Nat.le_of_ble_eq_true rfl) dX6_cool_8 ?_
  refine zz_put (M1 := zz_si M a0 1 (if (0 : Int32) < ((zz_i M a0 1) - x1) then ((zz_i M a0 1) - x1) else (0 : Int32))) C (zz_lt h0 (by decide)) (zz_c6 h0) rfl in_X6_cool_X6 tyX6 tyX6_ok nmX6 1 (by decide) (List.mem_of_getElem? (i := 1) rfl) rfl rfl rfl (Nat.le_of_ble_eq_true rfl) (zz_p6_1 h0) zz_cell_si dX6_cool_11 (fun M_1 => ?_)
  exact zz_vret C hr dX6_cool_14
