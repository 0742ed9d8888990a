-- X9_anHour ('X9', 'anHour', '()V')
theorem in_X9_anHour_X9 : ∀ w ∈ u_ws RX9 TX9 20, w ∈ wsX9_anHour := fun _ h => List.mem_cons_of_mem _ (List.mem_append_right _ h)
def b_X9_anHour_103 (k2 : Nat → Int32 → zz_M → Option (Unit × zz_M)) (a0 : Nat) (x1 : Int32) (st0 : Int32) (st1 : Int32) (st2 : Int32) (rt3 : Nat) (M : zz_M) : Option (Unit × zz_M) := zz_bd (f_X9_setVat rt3 st2 st1 st0 M) (fun _ M_16 => zz_w (x1 + (1 : Int32)) (fun x1_17 => k2 a0 x1_17 M_16))
set_option maxRecDepth 100000 in
set_option maxHeartbeats 4000000 in
theorem wb_X9_anHour_103 {p : Program} {l : Launch} {e : Env} {s : State} {m : MethodId} {args : Array Value} {below : List Frame} {meth : Method} {c : Code} {E : zz_E} (C : zz_C E RX9 cX9_anHour 4 wsX9_anHour p s m args meth c) (hr : meth.sig.returnType = none) {k2 : Nat → Int32 → zz_M → Option (Unit × zz_M)} (hk2 : ∀ (a0 : Nat) (x1 : Int32) (ha0 : zz_sh a0 = 9) (M : zz_M) (ls : Array Slot), lv_has ls 4 [(0, .ref (E.1 + a0)), (1, .int x1)] → zz_Z E p l e (zz_rm 2) s m args below meth c (zz_Q (zz_pv E) E below args s) (k2 a0 x1 M) M (F0 m 2 ls [])) : ∀ (a0 : Nat) (x1 : Int32) (st0 : Int32) (st1 : Int32) (st2 : Int32) (rt3 : Nat) (ha0 : zz_sh a0 = 9) (hrt3 : zz_sh rt3 = 9) (M : zz_M) (ls : Array Slot), lv_has ls 4 [(0, .ref (E.1 + a0)), (1, .int x1)] → zz_Z E p l e (zz_rm 2) s m args below meth c (zz_Q (zz_pv E) E below args s) (b_X9_anHour_103 k2 a0 x1 st0 st1 st2 rt3 M) M (F0 m 103 ls [.int st0, .int st1, .int st2, .ref (E.1 + rt3)]) := by
  intro a0 x1 st0 st1 st2 rt3 ha0 hrt3 M ls hl
  unfold b_X9_anHour_103
  refine zz_callVv (As := [.int st2, .int st1, .int st0]) (rest := []) C (m_X9_setVat l E rt3 st2 st1 st0 hrt3 M) (cwV 3 C.1.2.2.2.2 gX9_anHour_X9_setVat rfl rfl rfl hdV_X9_setVat ⟨Nat.le_of_ble_eq_true rfl, Nat.le_of_ble_eq_true rfl⟩) (zz_lt hrt3 (by decide)) (zz_c9 hrt3) rfl rfl hl.1 rfl (Nat.le_of_ble_eq_true rfl) dX9_anHour_103 (fun _ M_16 => ?_)
  refine zz_iinc (k9 := 1) (d := 1) C (fun x1_17 => [(1, .int x1_17), (0, .ref (E.1 + a0))]) dX9_anHour_106 hl rfl (by decide) (by decide) (fun _ => rfl) (fun x1_17 ls hl => ?_)
  refine zz_goto (tgt := 2) C dX9_anHour_109 (by decide) ?_
  exact hk2 a0 x1_17 ha0 M_16 ls (lv_sub hl [1, 0] rfl)
def b_X9_anHour_78 (k2 : Nat → Int32 → zz_M → Option (Unit × zz_M)) (a0 : Nat) (x1 : Int32) (x3 : Int32) (st0 : Int32) (st1 : Int32) (st2 : Int32) (rt3 : Nat) (M : zz_M) : Option (Unit × zz_M) := (if zz_in st2 440 = true then zz_w (zz_si M rt3 (zz_n st2) (st1 - st0)) (fun M_13 => (if x3 ≤ (99 : Int32) then (if 0 ≤ x3 then b_X9_anHour_103 k2 a0 x1 x3 (1 : Int32) x1 a0 M_13 else b_X9_anHour_103 k2 a0 x1 (0 : Int32) (1 : Int32) x1 a0 M_13) else b_X9_anHour_103 k2 a0 x1 (99 : Int32) (1 : Int32) x1 a0 M_13)) else none)
set_option maxRecDepth 100000 in
set_option maxHeartbeats 4000000 in
theorem wb_X9_anHour_78 {p : Program} {l : Launch} {e : Env} {s : State} {m : MethodId} {args : Array Value} {below : List Frame} {meth : Method} {c : Code} {E : zz_E} (C : zz_C E RX9 cX9_anHour 4 wsX9_anHour p s m args meth c) (hr : meth.sig.returnType = none) {k2 : Nat → Int32 → zz_M → Option (Unit × zz_M)} (hk2 : ∀ (a0 : Nat) (x1 : Int32) (ha0 : zz_sh a0 = 9) (M : zz_M) (ls : Array Slot), lv_has ls 4 [(0, .ref (E.1 + a0)), (1, .int x1)] → zz_Z E p l e (zz_rm 2) s m args below meth c (zz_Q (zz_pv E) E below args s) (k2 a0 x1 M) M (F0 m 2 ls [])) : ∀ (a0 : Nat) (x1 : Int32) (x3 : Int32) (st0 : Int32) (st1 : Int32) (st2 : Int32) (rt3 : Nat) (ha0 : zz_sh a0 = 9) (hrt3 : zz_sh rt3 = 13) (M : zz_M) (ls : Array Slot), lv_has ls 4 [(0, .ref (E.1 + a0)), (1, .int x1), (3, .int x3)] → zz_Z E p l e (zz_rm 2) s m args below meth c (zz_Q (zz_pv E) E below args s) (b_X9_anHour_78 k2 a0 x1 x3 st0 st1 st2 rt3 M) M (F0 m 78 ls [.int st0, .int st1, .int st2, .ref (E.1 + rt3)]) := by
  intro a0 x1 x3 st0 st1 st2 rt3 ha0 hrt3 M ls hl
  unfold b_X9_anHour_78
  refine zz_isub C dX9_anHour_78 ?_
  refine zz_iast C (zz_lt hrt3 (by decide)) (fun _ => zz_c13 hrt3) dX9_anHour_79 (fun M_13 => ?_)
  refine zz_aload_n C dX9_anHour_80 rfl (lv_at hl 0 rfl) ?_
  refine zz_iload_n C dX9_anHour_81 rfl (lv_at hl 1 rfl) ?_
  refine zz_iconst (v := 1) C dX9_anHour_82 (by decide) ?_
  refine zz_iload_n C dX9_anHour_83 rfl (lv_at hl 2 rfl) ?_
  refine zz_bipush (v := 99) C dX9_anHour_84 (by decide) ?_
  refine zz_icmp_le (tgt := 94) C dX9_anHour_86 (by decide) (fun c_14 => ?_) (fun c_14 => ?_)
  · refine zz_iload_n C dX9_anHour_94 rfl (lv_at hl 2 rfl) ?_
    refine zz_if_ge (tgt := 102) C dX9_anHour_95 (by decide) (fun c_15 => ?_) (fun c_15 => ?_)
    · refine zz_iload_n C dX9_anHour_102 rfl (lv_at hl 2 rfl) ?_
      exact wb_X9_anHour_103 C hr hk2 a0 x1 x3 (1 : Int32) x1 a0 ha0 ha0 M_13 ls (lv_sub hl [0, 1] rfl)
    · refine zz_iconst (v := 0) C dX9_anHour_98 (by decide) ?_
      refine zz_goto (tgt := 103) C dX9_anHour_99 (by decide) ?_
      exact wb_X9_anHour_103 C hr hk2 a0 x1 (0 : Int32) (1 : Int32) x1 a0 ha0 ha0 M_13 ls (lv_sub hl [0, 1] rfl)
  · refine zz_bipush (v := 99) C dX9_anHour_89 (by decide) ?_
    refine zz_goto (tgt := 103) C dX9_anHour_91 (by decide) ?_
    exact wb_X9_anHour_103 C hr hk2 a0 x1 (99 : Int32) (1 : Int32) x1 a0 ha0 ha0 M_13 ls (lv_sub hl [0, 1] rfl)
def b_X9_anHour_61 (k2 : Nat → Int32 → zz_M → Option (Unit × zz_M)) (a0 : Nat) (x1 : Int32) (x2 : Int32) (st0 : Int32) (M : zz_M) : Option (Unit × zz_M) := (if zz_in (1 : Int32) 440 = true then (if x2 = 0 then b_X9_anHour_78 k2 a0 x1 st0 (0 : Int32) (zz_i M 130 (zz_n (1 : Int32))) (1 : Int32) 130 M else b_X9_anHour_78 k2 a0 x1 st0 (1 : Int32) (zz_i M 130 (zz_n (1 : Int32))) (1 : Int32) 130 M) else none)
set_option maxRecDepth 100000 in
set_option maxHeartbeats 4000000 in
theorem wb_X9_anHour_61 {p : Program} {l : Launch} {e : Env} {s : State} {m : MethodId} {args : Array Value} {below : List Frame} {meth : Method} {c : Code} {E : zz_E} (C : zz_C E RX9 cX9_anHour 4 wsX9_anHour p s m args meth c) (hr : meth.sig.returnType = none) {k2 : Nat → Int32 → zz_M → Option (Unit × zz_M)} (hk2 : ∀ (a0 : Nat) (x1 : Int32) (ha0 : zz_sh a0 = 9) (M : zz_M) (ls : Array Slot), lv_has ls 4 [(0, .ref (E.1 + a0)), (1, .int x1)] → zz_Z E p l e (zz_rm 2) s m args below meth c (zz_Q (zz_pv E) E below args s) (k2 a0 x1 M) M (F0 m 2 ls [])) : ∀ (a0 : Nat) (x1 : Int32) (x2 : Int32) (st0 : Int32) (ha0 : zz_sh a0 = 9) (M : zz_M) (ls : Array Slot), lv_has ls 4 [(0, .ref (E.1 + a0)), (1, .int x1), (2, .int x2)] → zz_Z E p l e (zz_rm 2) s m args below meth c (zz_Q (zz_pv E) E below args s) (b_X9_anHour_61 k2 a0 x1 x2 st0 M) M (F0 m 61 ls [.int st0]) := by
  intro a0 x1 x2 st0 ha0 M ls hl
  unfold b_X9_anHour_61
  refine zz_istored_n (lv' := [(3, .int st0), (0, .ref (E.1 + a0)), (1, .int x1), (2, .int x2)]) C dX9_anHour_61 rfl hl (by decide) rfl (fun ls hl => ?_)
  refine zz_aload_n C dX9_anHour_62 rfl (lv_at hl 1 rfl) ?_
  refine zz_get C (zz_lt ha0 (by decide)) (zz_c9 ha0) rfl in_X9_anHour_X9 0 (by decide) (List.mem_of_getElem? (i := 1) rfl) rfl dX9_anHour_63 ?_
  refine zz_iconst (v := 1) C dX9_anHour_66 (by decide) ?_
  refine zz_dup2_11 C dX9_anHour_67 rfl rfl ?_
  refine zz_iald C (zz_lt (zz_s9_0 ha0) (by decide)) (zz_c13 (zz_s9_0 ha0)) dX9_anHour_68 ?_
  refine zz_iload_n C dX9_anHour_69 rfl (lv_at hl 3 rfl) ?_
  refine zz_if_eq (tgt := 77) C dX9_anHour_70 (by decide) (fun c_12 => ?_) (fun c_12 => ?_)
  · refine zz_iconst (v := 0) C dX9_anHour_77 (by decide) ?_
    exact wb_X9_anHour_78 C hr hk2 a0 x1 st0 (0 : Int32) (zz_i M 130 (zz_n (1 : Int32))) (1 : Int32) 130 ha0 (zz_s9_0 ha0) M ls (lv_sub hl [1, 2, 0] rfl)
  · refine zz_iconst (v := 1) C dX9_anHour_73 (by decide) ?_
    refine zz_goto (tgt := 78) C dX9_anHour_74 (by decide) ?_
    exact wb_X9_anHour_78 C hr hk2 a0 x1 st0 (1 : Int32) (zz_i M 130 (zz_n (1 : Int32))) (1 : Int32) 130 ha0 (zz_s9_0 ha0) M ls (lv_sub hl [1, 2, 0] rfl)
def b_X9_anHour_31 (k2 : Nat → Int32 → zz_M → Option (Unit × zz_M)) (a0 : Nat) (x1 : Int32) (st0 : Int32) (M : zz_M) : Option (Unit × zz_M) := (if st0 = 0 then zz_bd (f_X9_its a0 x1 (1 : Int32) M) (fun r_8 M_9 => (if zz_in (2 : Int32) 440 = true then b_X9_anHour_61 k2 a0 x1 st0 (r_8 - (zz_i M_9 130 (zz_n (2 : Int32)))) M_9 else none)) else zz_bd (f_X9_its a0 x1 (1 : Int32) M) (fun r_10 M_11 => b_X9_anHour_61 k2 a0 x1 st0 (r_10 + (10 : Int32)) M_11))
set_option maxRecDepth 100000 in
set_option maxHeartbeats 4000000 in
theorem wb_X9_anHour_31 {p : Program} {l : Launch} {e : Env} {s : State} {m : MethodId} {args : Array Value} {below : List Frame} {meth : Method} {c : Code} {E : zz_E} (C : zz_C E RX9 cX9_anHour 4 wsX9_anHour p s m args meth c) (hr : meth.sig.returnType = none) {k2 : Nat → Int32 → zz_M → Option (Unit × zz_M)} (hk2 : ∀ (a0 : Nat) (x1 : Int32) (ha0 : zz_sh a0 = 9) (M : zz_M) (ls : Array Slot), lv_has ls 4 [(0, .ref (E.1 + a0)), (1, .int x1)] → zz_Z E p l e (zz_rm 2) s m args below meth c (zz_Q (zz_pv E) E below args s) (k2 a0 x1 M) M (F0 m 2 ls [])) : ∀ (a0 : Nat) (x1 : Int32) (st0 : Int32) (ha0 : zz_sh a0 = 9) (M : zz_M) (ls : Array Slot), lv_has ls 4 [(0, .ref (E.1 + a0)), (1, .int x1)] → zz_Z E p l e (zz_rm 2) s m args below meth c (zz_Q (zz_pv E) E below args s) (b_X9_anHour_31 k2 a0 x1 st0 M) M (F0 m 31 ls [.int st0]) := by
  intro a0 x1 st0 ha0 M ls hl
  unfold b_X9_anHour_31
  refine zz_istored_n (lv' := [(2, .int st0), (0, .ref (E.1 + a0)), (1, .int x1)]) C dX9_anHour_31 rfl hl (by decide) rfl (fun ls hl => ?_)
  refine zz_iload_n C dX9_anHour_32 rfl (lv_at hl 0 rfl) ?_
  refine zz_if_eq (tgt := 48) C dX9_anHour_33 (by decide) (fun c_7 => ?_) (fun c_7 => ?_)
  · refine zz_aload_n C dX9_anHour_48 rfl (lv_at hl 1 rfl) ?_
    refine zz_iload_n C dX9_anHour_49 rfl (lv_at hl 2 rfl) ?_
    refine zz_iconst (v := 1) C dX9_anHour_50 (by decide) ?_
    refine zz_callVi (As := [.int x1, .int (1 : Int32)]) (rest := []) C (m_X9_its l E a0 x1 (1 : Int32) ha0 M) (cwV 2 C.1.2.2.2.2 gX9_anHour_X9_its rfl rfl rfl hdV_X9_its ⟨Nat.le_of_ble_eq_true rfl, Nat.le_of_ble_eq_true rfl⟩) (zz_lt ha0 (by decide)) (zz_c9 ha0) rfl rfl hl.1 rfl (Nat.le_of_ble_eq_true rfl) dX9_anHour_51 (fun r_8 M_9 => ?_)
    refine zz_aload_n C dX9_anHour_54 rfl (lv_at hl 1 rfl) ?_
    refine zz_get C (zz_lt ha0 (by decide)) (zz_c9 ha0) rfl in_X9_anHour_X9 0 (by decide) (List.mem_of_getElem? (i := 1) rfl) rfl dX9_anHour_55 ?_
    refine zz_iconst (v := 2) C dX9_anHour_58 (by decide) ?_
    refine zz_iald C (zz_lt (zz_s9_0 ha0) (by decide)) (zz_c13 (zz_s9_0 ha0)) dX9_anHour_59 ?_
    refine zz_isub C dX9_anHour_60 ?_
    exact wb_X9_anHour_61 C hr hk2 a0 x1 st0 (r_8 - (zz_i M_9 130 (zz_n (2 : Int32)))) ha0 M_9 ls (lv_sub hl [1, 2, 0] rfl)
  · refine zz_aload_n C dX9_anHour_36 rfl (lv_at hl 1 rfl) ?_
    refine zz_iload_n C dX9_anHour_37 rfl (lv_at hl 2 rfl) ?_
    refine zz_iconst (v := 1) C dX9_anHour_38 (by decide) ?_
    refine zz_callVi (As := [.int x1, .int (1 : Int32)]) (rest := []) C (m_X9_its l E a0 x1 (1 : Int32) ha0 M) (cwV 2 C.1.2.2.2.2 gX9_anHour_X9_its rfl rfl rfl hdV_X9_its ⟨Nat.le_of_ble_eq_true rfl, Nat.le_of_ble_eq_true rfl⟩) (zz_lt ha0 (by decide)) (zz_c9 ha0) rfl rfl hl.1 rfl (Nat.le_of_ble_eq_true rfl) dX9_anHour_39 (fun r_10 M_11 => ?_)
    refine zz_bipush (v := 10) C dX9_anHour_42 (by decide) ?_
    refine zz_iadd C dX9_anHour_44 ?_
    refine zz_goto (tgt := 61) C dX9_anHour_45 (by decide) ?_
    exact wb_X9_anHour_61 C hr hk2 a0 x1 st0 (r_10 + (10 : Int32)) ha0 M_11 ls (lv_sub hl [1, 2, 0] rfl)
def b_X9_anHour_30 (k2 : Nat → Int32 → zz_M → Option (Unit × zz_M)) (a0 : Nat) (x1 : Int32) (M : zz_M) : Option (Unit × zz_M) := b_X9_anHour_31 k2 a0 x1 (0 : Int32) M
set_option maxRecDepth 100000 in
set_option maxHeartbeats 4000000 in
theorem wb_X9_anHour_30 {p : Program} {l : Launch} {e : Env} {s : State} {m : MethodId} {args : Array Value} {below : List Frame} {meth : Method} {c : Code} {E : zz_E} (C : zz_C E RX9 cX9_anHour 4 wsX9_anHour p s m args meth c) (hr : meth.sig.returnType = none) {k2 : Nat → Int32 → zz_M → Option (Unit × zz_M)} (hk2 : ∀ (a0 : Nat) (x1 : Int32) (ha0 : zz_sh a0 = 9) (M : zz_M) (ls : Array Slot), lv_has ls 4 [(0, .ref (E.1 + a0)), (1, .int x1)] → zz_Z E p l e (zz_rm 2) s m args below meth c (zz_Q (zz_pv E) E below args s) (k2 a0 x1 M) M (F0 m 2 ls [])) : ∀ (a0 : Nat) (x1 : Int32) (ha0 : zz_sh a0 = 9) (M : zz_M) (ls : Array Slot), lv_has ls 4 [(0, .ref (E.1 + a0)), (1, .int x1)] → zz_Z E p l e (zz_rm 2) s m args below meth c (zz_Q (zz_pv E) E below args s) (b_X9_anHour_30 k2 a0 x1 M) M (F0 m 30 ls []) := by
  intro a0 x1 ha0 M ls hl
  unfold b_X9_anHour_30
  refine zz_iconst (v := 0) C dX9_anHour_30 (by decide) ?_
  exact wb_X9_anHour_31 C hr hk2 a0 x1 (0 : Int32) ha0 M ls (lv_sub hl [0, 1] rfl)
def b_X9_anHour_2 : Nat → Nat → Int32 → zz_M → Option (Unit × zz_M)
  | 0 => fun _ _ _ => none
  | n + 1 => fun a0 x1 M => (if (4 : Int32) ≤ x1 then (if zz_in (3 : Int32) 440 = true then (if zz_in (3 : Int32) 440 = true then zz_w (zz_si M 130 (zz_n (3 : Int32)) ((zz_i M 130 (zz_n (3 : Int32))) + (1 : Int32))) (fun M_2 => some ((), M_2)) else none) else none) else zz_bd (f_X9_its a0 x1 (3 : Int32) M) (fun r_3 M_4 => (if r_3 = (1 : Int32) then (if zz_in (1 : Int32) 440 = true then (if (zz_i M_4 130 (zz_n (1 : Int32))) ≤ 0 then b_X9_anHour_30 (b_X9_anHour_2 n) a0 x1 M_4 else b_X9_anHour_31 (b_X9_anHour_2 n) a0 x1 (1 : Int32) M_4) else none) else b_X9_anHour_30 (b_X9_anHour_2 n) a0 x1 M_4)))
set_option maxRecDepth 100000 in
set_option maxHeartbeats 4000000 in
theorem wb_X9_anHour_2 {p : Program} {l : Launch} {e : Env} {s : State} {m : MethodId} {args : Array Value} {below : List Frame} {meth : Method} {c : Code} {E : zz_E} (C : zz_C E RX9 cX9_anHour 4 wsX9_anHour p s m args meth c) (hr : meth.sig.returnType = none) : ∀ (n : Nat) (a0 : Nat) (x1 : Int32) (ha0 : zz_sh a0 = 9) (M : zz_M) (ls : Array Slot), lv_has ls 4 [(0, .ref (E.1 + a0)), (1, .int x1)] → zz_Z E p l e (zz_rm 2) s m args below meth c (zz_Q (zz_pv E) E below args s) (b_X9_anHour_2 n a0 x1 M) M (F0 m 2 ls []) := by
  intro n
  induction n with
  | zero => intro a0 x1 ha0 M ls hl; exact zz_none
  | succ n ih =>
    intro a0 x1 ha0 M ls hl
    rw [b_X9_anHour_2]
    refine zz_iload_n C dX9_anHour_2 rfl (lv_at hl 1 rfl) ?_
    refine zz_iconst (v := 4) C dX9_anHour_3 (by decide) ?_
    refine zz_icmp_ge (tgt := 112) C dX9_anHour_4 (by decide) (fun c_1 => ?_) (fun c_1 => ?_)
    · refine zz_aload_n C dX9_anHour_112 rfl (lv_at hl 0 rfl) ?_
      refine zz_get C (zz_lt ha0 (by decide)) (zz_c9 ha0) rfl in_X9_anHour_X9 0 (by decide) (List.mem_of_getElem? (i := 1) rfl) rfl dX9_anHour_113 ?_
      refine zz_iconst (v := 3) C dX9_anHour_116 (by decide) ?_
      refine zz_dup2_11 C dX9_anHour_117 rfl rfl ?_
      refine zz_iald C (zz_lt (zz_s9_0 ha0) (by decide)) (zz_c13 (zz_s9_0 ha0)) dX9_anHour_118 ?_
      refine zz_iconst (v := 1) C dX9_anHour_119 (by decide) ?_
      refine zz_iadd C dX9_anHour_120 ?_
      refine zz_iast C (zz_lt (zz_s9_0 ha0) (by decide)) (fun _ => zz_c13 (zz_s9_0 ha0)) dX9_anHour_121 (fun M_2 => ?_)
      exact zz_vret C hr dX9_anHour_122
    · refine zz_aload_n C dX9_anHour_7 rfl (lv_at hl 0 rfl) ?_
      refine zz_iload_n C dX9_anHour_8 rfl (lv_at hl 1 rfl) ?_
      refine zz_iconst (v := 3) C dX9_anHour_9 (by decide) ?_
      refine zz_callVi (As := [.int x1, .int (3 : Int32)]) (rest := []) C (m_X9_its l E a0 x1 (3 : Int32) ha0 M) (cwV 2 C.1.2.2.2.2 gX9_anHour_X9_its rfl rfl rfl hdV_X9_its ⟨Nat.le_of_ble_eq_true rfl, Nat.le_of_ble_eq_true rfl⟩) (zz_lt ha0 (by decide)) (zz_c9 ha0) rfl rfl hl.1 rfl (Nat.le_of_ble_eq_true rfl) dX9_anHour_10 (fun r_3 M_4 => ?_)
      refine zz_iconst (v := 1) C dX9_anHour_13 (by decide) ?_
      refine zz_icmp_ne (tgt := 30) C dX9_anHour_14 (by decide) (fun c_5 => ?_) (fun c_5 => ?_)
      · refine zz_aload_n C dX9_anHour_17 rfl (lv_at hl 0 rfl) ?_
        refine zz_get C (zz_lt ha0 (by decide)) (zz_c9 ha0) rfl in_X9_anHour_X9 0 (by decide) (List.mem_of_getElem? (i := 1) rfl) rfl dX9_anHour_18 ?_
        refine zz_iconst (v := 1) C dX9_anHour_21 (by decide) ?_
        refine zz_iald C (zz_lt (zz_s9_0 ha0) (by decide)) (zz_c13 (zz_s9_0 ha0)) dX9_anHour_22 ?_
        refine zz_if_le (tgt := 30) C dX9_anHour_23 (by decide) (fun c_6 => ?_) (fun c_6 => ?_)
        · exact wb_X9_anHour_30 C hr ih a0 x1 ha0 M_4 ls (lv_sub hl [0, 1] rfl)
        · refine zz_iconst (v := 1) C dX9_anHour_26 (by decide) ?_
          refine zz_goto (tgt := 31) C dX9_anHour_27 (by decide) ?_
          exact wb_X9_anHour_31 C hr ih a0 x1 (1 : Int32) ha0 M_4 ls (lv_sub hl [0, 1] rfl)
      · exact wb_X9_anHour_30 C hr ih a0 x1 ha0 M_4 ls (lv_sub hl [0, 1] rfl)
def f_X9_anHour (a0 : Nat) (M : zz_M) : Option (Unit × zz_M) := b_X9_anHour_2  zz_fuel a0 (0 : Int32) M
set_option maxRecDepth 100000 in
set_option maxHeartbeats 4000000 in
theorem m_X9_anHour (l : Launch) (E : zz_E) (a0 : Nat) (h0 : zz_sh a0 = 9) (M : zz_M) : zz_Met (zz_pv E) l yX9_anHour wsX9_anHour 2 E [.ref (E.1 + a0)] M (f_X9_anHour a0 M) := by
  refine zz_met (cc := cX9_anHour) (nL := 4) (ret := none) (by decide) rfl (Nat.le_of_ble_eq_true rfl) ?_
  intro p e s m below meth c C hr ls hl
  have C : zz_C E RX9 cX9_anHour 4 wsX9_anHour p s m [.ref (E.1 + a0)].toArray meth c := C
  have hl : lv_has ls 4 [(0, .ref (E.1 + a0))] := hl
  unfold f_X9_anHour
  refine zz_iconst (v := 0) C dX9_anHour_0 (by decide) ?_
  refine zz_istored_n (lv' := [(1, .int (0 : Int32)), (0, .ref (E.1 + a0))]) C dX9_anHour_1 rfl hl (by decide) rfl (fun ls hl => ?_)
  exact wb_X9_anHour_2 C hr  zz_fuel a0 (0 : Int32) h0 M ls (lv_sub hl [1, 0] rfl)
-- X9_go ('X9', 'go', '(I)V')
theorem hdV_X9_anHour : yX9_anHour.cls = RX9 ∧ yX9_anHour.cls ≠ "java/lang/invoke/MethodHandle" ∧ yX9_anHour.cls ≠ "java/lang/invoke/VarHandle" ∧ (parseMethodDescriptor yX9_anHour.desc).map (fun d => d.parameters.length) = some 0 := by decide +kernel
def b_X9_go_2 : Nat → Nat → Int32 → Int32 → zz_M → Option (Unit × zz_M)
  | 0 => fun _ _ _ _ => none
  | n + 1 => fun a0 x1 x2 M => (if x1 ≤ x2 then some ((), M) else zz_bd (f_X9_anHour a0 M) (fun _ M_2 => zz_w (x2 + (1 : Int32)) (fun x2_3 => (b_X9_go_2 n) a0 x1 x2_3 M_2)))
set_option maxRecDepth 100000 in
set_option maxHeartbeats 4000000 in
theorem wb_X9_go_2 {p : Program} {l : Launch} {e : Env} {s : State} {m : MethodId} {args : Array Value} {below : List Frame} {meth : Method} {c : Code} {E : zz_E} (C : zz_C E RX9 cX9_go 3 wsX9_go p s m args meth c) (hr : meth.sig.returnType = none) : ∀ (n : Nat) (a0 : Nat) (x1 : Int32) (x2 : Int32) (ha0 : zz_sh a0 = 9) (M : zz_M) (ls : Array Slot), lv_has ls 3 [(0, .ref (E.1 + a0)), (1, .int x1), (2, .int x2)] → zz_Z E p l e (zz_rm 3) s m args below meth c (zz_Q (zz_pv E) E below args s) (b_X9_go_2 n a0 x1 x2 M) M (F0 m 2 ls []) := by
  intro n
  induction n with
  | zero => intro a0 x1 x2 ha0 M ls hl; exact zz_none
  | succ n ih =>
    intro a0 x1 x2 ha0 M ls hl
    rw [b_X9_go_2]
    refine zz_iload_n C dX9_go_2 rfl (lv_at hl 2 rfl) ?_
    refine zz_iload_n C dX9_go_3 rfl (lv_at hl 1 rfl) ?_
    refine zz_icmp_ge (tgt := 17) C dX9_go_4 (by decide) (fun c_1 => ?_) (fun c_1 => ?_)
    · exact zz_vret C hr dX9_go_17
    · refine zz_aload_n C dX9_go_7 rfl (lv_at hl 0 rfl) ?_
      refine zz_callVv (As := []) (rest := []) C (m_X9_anHour l E a0 ha0 M) (cwV 0 C.1.2.2.2.2 gX9_go_X9_anHour rfl rfl rfl hdV_X9_anHour ⟨Nat.le_of_ble_eq_true rfl, Nat.le_of_ble_eq_true rfl⟩) (zz_lt ha0 (by decide)) (zz_c9 ha0) rfl rfl hl.1 rfl (Nat.le_of_ble_eq_true rfl) dX9_go_8 (fun _ M_2 => ?_)
      refine zz_iinc (k9 := 2) (d := 1) C (fun x2_3 => [(2, .int x2_3), (0, .ref (E.1 + a0)), (1, .int x1)]) dX9_go_11 hl rfl (by decide) (by decide) (fun _ => rfl) (fun x2_3 ls hl => ?_)
      refine zz_goto (tgt := 2) C dX9_go_14 (by decide) ?_
      exact ih a0 x1 x2_3 ha0 M_2 ls (lv_sub hl [1, 2, 0] rfl)
def f_X9_go (a0 : Nat) (x1 : Int32) (M : zz_M) : Option (Unit × zz_M) := b_X9_go_2  zz_fuel a0 x1 (0 : Int32) M
set_option maxRecDepth 100000 in
set_option maxHeartbeats 4000000 in
theorem m_X9_go (l : Launch) (E : zz_E) (a0 : Nat) (x1 : Int32) (h0 : zz_sh a0 = 9) (M : zz_M) : zz_Met (zz_pv E) l yX9_go wsX9_go 3 E [.ref (E.1 + a0), .int x1] M (f_X9_go a0 x1 M) := by
  refine zz_met (cc := cX9_go) (nL := 3) (ret := none) (by decide) rfl (Nat.le_of_ble_eq_true rfl) ?_
  intro p e s m below meth c C hr ls hl
  have C : zz_C E RX9 cX9_go 3 wsX9_go p s m [.ref (E.1 + a0), .int x1].toArray meth c := C
  have hl : lv_has ls 3 [(0, .ref (E.1 + a0)), (1, .int x1)] := hl
  unfold f_X9_go
  refine zz_iconst (v := 0) C dX9_go_0 (by decide) ?_
  refine zz_istored_n (lv' := [(2, .int (0 : Int32)), (0, .ref (E.1 + a0)), (1, .int x1)]) C dX9_go_1 rfl hl (by decide) rfl (fun ls hl => ?_)
  exact wb_X9_go_2 C hr  zz_fuel a0 x1 (0 : Int32) h0 M ls (lv_sub hl [1, 2, 0] rfl)
-- X9_hours ('X9', 'hours', '(I)I')
theorem in_X9_hours_X9 : ∀ w ∈ u_ws RX9 TX9 20, w ∈ wsX9_hours := fun _ h => List.mem_cons_of_mem _ (List.mem_append_right _ h)
theorem hdV_X9_go : yX9_go.cls = RX9 ∧ yX9_go.cls ≠ "java/lang/invoke/MethodHandle" ∧ yX9_go.cls ≠ "java/lang/invoke/VarHandle" ∧ (parseMethodDescriptor yX9_go.desc).map (fun d => d.parameters.length) = some 1 := by decide +kernel
def f_X9_hours (a0 : Nat) (x1 : Int32) (M : zz_M) : Option (Int32 × zz_M) := zz_bd (f_X9_in x1 (1 : Int32) (200 : Int32) M) (fun r_1 M_2 => (if r_1 = 0 then zz_bd (f_X9_finds a0 (-1000000001 : Int32) M_2) (fun r_9 M_10 => some (r_9, M_10)) else (if zz_in (3 : Int32) 440 = true then (if ((zz_i M_2 130 (zz_n (3 : Int32))) + x1) ≤ (9999 : Int32) then (if zz_in (1 : Int32) 440 = true then zz_w (zz_i M_2 130 (zz_n (1 : Int32))) (fun x2_5 => zz_bd (f_X9_go a0 x1 M_2) (fun _ M_6 => (if zz_in (1 : Int32) 440 = true then some ((x2_5 - (zz_i M_6 130 (zz_n (1 : Int32)))), M_6) else none))) else none) else zz_bd (f_X9_finds a0 (-1000000005 : Int32) M_2) (fun r_7 M_8 => some (r_7, M_8))) else none)))
set_option maxRecDepth 100000 in
set_option maxHeartbeats 4000000 in
theorem m_X9_hours (l : Launch) (E : zz_E) (a0 : Nat) (x1 : Int32) (h0 : zz_sh a0 = 9) (M : zz_M) : zz_Met (zz_pi E) l yX9_hours wsX9_hours 4 E [.ref (E.1 + a0), .int x1] M (f_X9_hours a0 x1 M) := by
  refine zz_met (cc := cX9_hours) (nL := 3) (ret := (some .int)) (by decide) rfl (Nat.le_of_ble_eq_true rfl) ?_
  intro p e s m below meth c C hr ls hl
  have C : zz_C E RX9 cX9_hours 3 wsX9_hours p s m [.ref (E.1 + a0), .int x1].toArray meth c := C
  have hl : lv_has ls 3 [(0, .ref (E.1 + a0)), (1, .int x1)] := hl
  unfold f_X9_hours
  refine zz_iload_n C dX9_hours_0 rfl (lv_at hl 1 rfl) ?_
  refine zz_iconst (v := 1) C dX9_hours_1 (by decide) ?_
  refine zz_sipush (v := 200) C dX9_hours_2 (by decide) ?_
  refine zz_callSi (As := [.int x1, .int (1 : Int32), .int (200 : Int32)]) (rest := []) C (m_X9_in l E x1 (1 : Int32) (200 : Int32)  M) (va_cwS 3 C.1.2.2.2.2 gX9_hours_X9_in rfl rfl rfl hdS_X9_in ⟨Nat.le_of_ble_eq_true rfl, Nat.le_of_ble_eq_true rfl⟩) rfl hl.1 rfl (Nat.le_of_ble_eq_true rfl) dX9_hours_5 (fun r_1 M_2 => ?_)
  refine zz_if_ne (tgt := 18) C dX9_hours_8 (by decide) (fun c_3 => ?_) (fun c_3 => ?_)
  · refine zz_aload_n C dX9_hours_11 rfl (lv_at hl 0 rfl) ?_
    refine zz_ldc (v := -1000000001) C (List.mem_of_getElem? (i := 1) rfl) dX9_hours_12 ?_
    refine zz_callVi (As := [.int (-1000000001 : Int32)]) (rest := []) C (m_X9_finds l E a0 (-1000000001 : Int32) h0 M_2) (cwV 1 C.1.2.2.2.2 gX9_hours_X9_finds rfl rfl rfl hdV_X9_finds ⟨Nat.le_of_ble_eq_true rfl, Nat.le_of_ble_eq_true rfl⟩) (zz_lt h0 (by decide)) (zz_c9 h0) rfl rfl hl.1 rfl (Nat.le_of_ble_eq_true rfl) dX9_hours_14 (fun r_9 M_10 => ?_)
    exact zz_iret C hr dX9_hours_17
  · refine zz_aload_n C dX9_hours_18 rfl (lv_at hl 0 rfl) ?_
    refine zz_get C (zz_lt h0 (by decide)) (zz_c9 h0) rfl in_X9_hours_X9 0 (by decide) (List.mem_of_getElem? (i := 2) rfl) rfl dX9_hours_19 ?_
    refine zz_iconst (v := 3) C dX9_hours_22 (by decide) ?_
    refine zz_iald C (zz_lt (zz_s9_0 h0) (by decide)) (zz_c13 (zz_s9_0 h0)) dX9_hours_23 ?_
    refine zz_iload_n C dX9_hours_24 rfl (lv_at hl 1 rfl) ?_
    refine zz_iadd C dX9_hours_25 ?_
    refine zz_sipush (v := 9999) C dX9_hours_26 (by decide) ?_
    refine zz_icmp_le (tgt := 39) C dX9_hours_29 (by decide) (fun c_4 => ?_) (fun c_4 => ?_)
    · refine zz_aload_n C dX9_hours_39 rfl (lv_at hl 0 rfl) ?_
      refine zz_get C (zz_lt h0 (by decide)) (zz_c9 h0) rfl in_X9_hours_X9 0 (by decide) (List.mem_of_getElem? (i := 2) rfl) rfl dX9_hours_40 ?_
      refine zz_iconst (v := 1) C dX9_hours_43 (by decide) ?_
      refine zz_iald C (zz_lt (zz_s9_0 h0) (by decide)) (zz_c13 (zz_s9_0 h0)) dX9_hours_44 ?_
      refine zz_istore_n C (fun x2_5 => [(2, .int x2_5), (0, .ref (E.1 + a0)), (1, .int x1)]) dX9_hours_45 rfl hl (by decide) (fun _ => rfl) (fun x2_5 ls hl => ?_)
      refine zz_aload_n C dX9_hours_46 rfl (lv_at hl 1 rfl) ?_
      refine zz_iload_n C dX9_hours_47 rfl (lv_at hl 2 rfl) ?_
      refine zz_callVv (As := [.int x1]) (rest := []) C (m_X9_go l E a0 x1 h0 M_2) (cwV 1 C.1.2.2.2.2 gX9_hours_X9_go rfl rfl rfl hdV_X9_go ⟨Nat.le_of_ble_eq_true rfl, Nat.le_of_ble_eq_true rfl⟩) (zz_lt h0 (by decide)) (zz_c9 h0) rfl rfl hl.1 rfl (Nat.le_of_ble_eq_true rfl) dX9_hours_48 (fun _ M_6 => ?_)
      refine zz_iload_n C dX9_hours_51 rfl (lv_at hl 0 rfl) ?_
      refine zz_aload_n C dX9_hours_52 rfl (lv_at hl 1 rfl) ?_
      refine zz_get C (zz_lt h0 (by decide)) (zz_c9 h0) rfl in_X9_hours_X9 0 (by decide) (List.mem_of_getElem? (i := 2) rfl) rfl dX9_hours_53 ?_
      refine zz_iconst (v := 1) C dX9_hours_56 (by decide) ?_
      refine zz_iald C (zz_lt (zz_s9_0 h0) (by decide)) (zz_c13 (zz_s9_0 h0)) dX9_hours_57 ?_
      refine zz_isub C dX9_hours_58 ?_
      exact zz_iret C hr dX9_hours_59
    · refine zz_aload_n C dX9_hours_32 rfl (lv_at hl 0 rfl) ?_
      refine zz_ldc (v := -1000000005) C (List.mem_of_getElem? (i := 3) rfl) dX9_hours_33 ?_
      refine zz_callVi (As := [.int (-1000000005 : Int32)]) (rest := []) C (m_X9_finds l E a0 (-1000000005 : Int32) h0 M_2) (cwV 1 C.1.2.2.2.2 gX9_hours_X9_finds rfl rfl rfl hdV_X9_finds ⟨Nat.le_of_ble_eq_true rfl, Nat.le_of_ble_eq_true rfl⟩) (zz_lt h0 (by decide)) (zz_c9 h0) rfl rfl hl.1 rfl (Nat.le_of_ble_eq_true rfl) dX9_hours_35 (fun r_7 M_8 => ?_)
      exact zz_iret C hr dX9_hours_38
-- X9_now ('X9', 'now', '(I)I')
theorem in_X9_now_X9 : ∀ w ∈ u_ws RX9 TX9 20, w ∈ wsX9_now := fun _ h => List.mem_cons_of_mem _ (List.mem_append_right _ h)
def b_X9_now_59 : Nat → Nat → Int32 → Int32 → zz_M → Option (Int32 × zz_M)
  | 0 => fun _ _ _ _ => none
  | n + 1 => fun a0 x2 x3 M => (if (4 : Int32) ≤ x3 then some (x2, M) else zz_bd (f_X9_its a0 x3 (2 : Int32) M) (fun r_9 M_10 => zz_w (x2 + r_9) (fun x2_11 => zz_w (x3 + (1 : Int32)) (fun x3_12 => (b_X9_now_59 n) a0 x2_11 x3_12 M_10))))
set_option maxRecDepth 100000 in
set_option maxHeartbeats 4000000 in
theorem wb_X9_now_59 {p : Program} {l : Launch} {e : Env} {s : State} {m : MethodId} {args : Array Value} {below : List Frame} {meth : Method} {c : Code} {E : zz_E} (C : zz_C E RX9 cX9_now 4 wsX9_now p s m args meth c) (hr : meth.sig.returnType = (some .int)) : ∀ (n : Nat) (a0 : Nat) (x2 : Int32) (x3 : Int32) (ha0 : zz_sh a0 = 9) (M : zz_M) (ls : Array Slot), lv_has ls 4 [(0, .ref (E.1 + a0)), (2, .int x2), (3, .int x3)] → zz_Z E p l e (zz_rm 4) s m args below meth c (zz_Q (zz_pi E) E below args s) (b_X9_now_59 n a0 x2 x3 M) M (F0 m 59 ls []) := by
  intro n
  induction n with
  | zero => intro a0 x2 x3 ha0 M ls hl; exact zz_none
  | succ n ih =>
    intro a0 x2 x3 ha0 M ls hl
    rw [b_X9_now_59]
    refine zz_iload_n C dX9_now_59 rfl (lv_at hl 2 rfl) ?_
    refine zz_iconst (v := 4) C dX9_now_60 (by decide) ?_
    refine zz_icmp_ge (tgt := 79) C dX9_now_61 (by decide) (fun c_8 => ?_) (fun c_8 => ?_)
    · refine zz_iload_n C dX9_now_79 rfl (lv_at hl 1 rfl) ?_
      exact zz_iret C hr dX9_now_80
    · refine zz_iload_n C dX9_now_64 rfl (lv_at hl 1 rfl) ?_
      refine zz_aload_n C dX9_now_65 rfl (lv_at hl 0 rfl) ?_
      refine zz_iload_n C dX9_now_66 rfl (lv_at hl 2 rfl) ?_
      refine zz_iconst (v := 2) C dX9_now_67 (by decide) ?_
      refine zz_callVi (As := [.int x3, .int (2 : Int32)]) (rest := [.int x2]) C (m_X9_its l E a0 x3 (2 : Int32) ha0 M) (cwV 2 C.1.2.2.2.2 gX9_now_X9_its rfl rfl rfl hdV_X9_its ⟨Nat.le_of_ble_eq_true rfl, Nat.le_of_ble_eq_true rfl⟩) (zz_lt ha0 (by decide)) (zz_c9 ha0) rfl rfl hl.1 rfl (Nat.le_of_ble_eq_true rfl) dX9_now_68 (fun r_9 M_10 => ?_)
      refine zz_iadd C dX9_now_71 ?_
      refine zz_istore_n C (fun x2_11 => [(2, .int x2_11), (0, .ref (E.1 + a0)), (3, .int x3)]) dX9_now_72 rfl hl (by decide) (fun _ => rfl) (fun x2_11 ls hl => ?_)
      refine zz_iinc (k9 := 2) (d := 1) C (fun x3_12 => [(3, .int x3_12), (2, .int x2_11), (0, .ref (E.1 + a0))]) dX9_now_73 hl rfl (by decide) (by decide) (fun _ => rfl) (fun x3_12 ls hl => ?_)
      refine zz_goto (tgt := 59) C dX9_now_76 (by decide) ?_
      exact ih a0 x2_11 x3_12 ha0 M_10 ls (lv_sub hl [2, 1, 0] rfl)
def b_X9_now_83 : Nat → Nat → Int32 → Int32 → zz_M → Option (Int32 × zz_M)
  | 0 => fun _ _ _ _ => none
  | n + 1 => fun a0 x2 x3 M => (if zz_in (0 : Int32) 440 = true then (if (zz_i M 130 (zz_n (0 : Int32))) ≤ x3 then some (x2, M) else zz_bd (f_X9_grams a0 x3 (0 : Int32) M) (fun r_14 M_15 => zz_w (x2 + r_14) (fun x2_16 => zz_w (x3 + (1 : Int32)) (fun x3_17 => (b_X9_now_83 n) a0 x2_16 x3_17 M_15)))) else none)
set_option maxRecDepth 100000 in
set_option maxHeartbeats 4000000 in
theorem wb_X9_now_83 {p : Program} {l : Launch} {e : Env} {s : State} {m : MethodId} {args : Array Value} {below : List Frame} {meth : Method} {c : Code} {E : zz_E} (C : zz_C E RX9 cX9_now 4 wsX9_now p s m args meth c) (hr : meth.sig.returnType = (some .int)) : ∀ (n : Nat) (a0 : Nat) (x2 : Int32) (x3 : Int32) (ha0 : zz_sh a0 = 9) (M : zz_M) (ls : Array Slot), lv_has ls 4 [(0, .ref (E.1 + a0)), (2, .int x2), (3, .int x3)] → zz_Z E p l e (zz_rm 4) s m args below meth c (zz_Q (zz_pi E) E below args s) (b_X9_now_83 n a0 x2 x3 M) M (F0 m 83 ls []) := by
  intro n
  induction n with
  | zero => intro a0 x2 x3 ha0 M ls hl; exact zz_none
  | succ n ih =>
    intro a0 x2 x3 ha0 M ls hl
    rw [b_X9_now_83]
    refine zz_iload_n C dX9_now_83 rfl (lv_at hl 2 rfl) ?_
    refine zz_aload_n C dX9_now_84 rfl (lv_at hl 0 rfl) ?_
    refine zz_get C (zz_lt ha0 (by decide)) (zz_c9 ha0) rfl in_X9_now_X9 0 (by decide) (List.mem_of_getElem? (i := 1) rfl) rfl dX9_now_85 ?_
    refine zz_iconst (v := 0) C dX9_now_88 (by decide) ?_
    refine zz_iald C (zz_lt (zz_s9_0 ha0) (by decide)) (zz_c13 (zz_s9_0 ha0)) dX9_now_89 ?_
    refine zz_icmp_ge (tgt := 108) C dX9_now_90 (by decide) (fun c_13 => ?_) (fun c_13 => ?_)
    · refine zz_iload_n C dX9_now_108 rfl (lv_at hl 1 rfl) ?_
      exact zz_iret C hr dX9_now_109
    · refine zz_iload_n C dX9_now_93 rfl (lv_at hl 1 rfl) ?_
      refine zz_aload_n C dX9_now_94 rfl (lv_at hl 0 rfl) ?_
      refine zz_iload_n C dX9_now_95 rfl (lv_at hl 2 rfl) ?_
      refine zz_iconst (v := 0) C dX9_now_96 (by decide) ?_
      refine zz_callVi (As := [.int x3, .int (0 : Int32)]) (rest := [.int x2]) C (m_X9_grams l E a0 x3 (0 : Int32) ha0 M) (cwV 2 C.1.2.2.2.2 gX9_now_X9_grams rfl rfl rfl hdV_X9_grams ⟨Nat.le_of_ble_eq_true rfl, Nat.le_of_ble_eq_true rfl⟩) (zz_lt ha0 (by decide)) (zz_c9 ha0) rfl rfl hl.1 rfl (Nat.le_of_ble_eq_true rfl) dX9_now_97 (fun r_14 M_15 => ?_)
      refine zz_iadd C dX9_now_100 ?_
      refine zz_istore_n C (fun x2_16 => [(2, .int x2_16), (0, .ref (E.1 + a0)), (3, .int x3)]) dX9_now_101 rfl hl (by decide) (fun _ => rfl) (fun x2_16 ls hl => ?_)
      refine zz_iinc (k9 := 2) (d := 1) C (fun x3_17 => [(3, .int x3_17), (2, .int x2_16), (0, .ref (E.1 + a0))]) dX9_now_102 hl rfl (by decide) (by decide) (fun _ => rfl) (fun x3_17 ls hl => ?_)
      refine zz_goto (tgt := 83) C dX9_now_105 (by decide) ?_
      exact ih a0 x2_16 x3_17 ha0 M_15 ls (lv_sub hl [2, 1, 0] rfl)
def f_X9_now (a0 : Nat) (x1 : Int32) (M : zz_M) : Option (Int32 × zz_M) := (if x1 = (0 : Int32) then (if zz_in (3 : Int32) 440 = true then some ((zz_i M 130 (zz_n (3 : Int32))), M) else none) else (if x1 = (1 : Int32) then (if zz_in (1 : Int32) 440 = true then some ((zz_i M 130 (zz_n (1 : Int32))), M) else none) else (if x1 = (2 : Int32) then (if zz_in (2 : Int32) 440 = true then some ((zz_i M 130 (zz_n (2 : Int32))), M) else none) else (if x1 = (3 : Int32) then b_X9_now_59  zz_fuel a0 (0 : Int32) (0 : Int32) M else (if x1 = (4 : Int32) then b_X9_now_83  zz_fuel a0 (0 : Int32) (0 : Int32) M else zz_bd (f_X9_finds a0 (-1000000001 : Int32) M) (fun r_6 M_7 => some (r_6, M_7)))))))
set_option maxRecDepth 100000 in
set_option maxHeartbeats 4000000 in
theorem m_X9_now (l : Launch) (E : zz_E) (a0 : Nat) (x1 : Int32) (h0 : zz_sh a0 = 9) (M : zz_M) : zz_Met (zz_pi E) l yX9_now wsX9_now 4 E [.ref (E.1 + a0), .int x1] M (f_X9_now a0 x1 M) := by
  refine zz_met (cc := cX9_now) (nL := 4) (ret := (some .int)) (by decide) rfl (Nat.le_of_ble_eq_true rfl) ?_
  intro p e s m below meth c C hr ls hl
  have C : zz_C E RX9 cX9_now 4 wsX9_now p s m [.ref (E.1 + a0), .int x1].toArray meth c := C
  have hl : lv_has ls 4 [(0, .ref (E.1 + a0)), (1, .int x1)] := hl
  unfold f_X9_now
  refine zz_iconst (v := 0) C dX9_now_0 (by decide) ?_
  refine zz_istored_n (lv' := [(2, .int (0 : Int32)), (0, .ref (E.1 + a0)), (1, .int x1)]) C dX9_now_1 rfl hl (by decide) rfl (fun ls hl => ?_)
  refine zz_iload_n C dX9_now_2 rfl (lv_at hl 2 rfl) ?_
  refine zz_ite (fun c_1 => ?_) (fun c_1 => ?_)
  · refine zz_tabIn (tgt := 36) C dX9_now_3 (by rw [c_1]; decide) (by rw [c_1]; decide) (by rw [c_1]; rfl) (by decide) ?_
    refine zz_aload_n C dX9_now_36 rfl (lv_at hl 1 rfl) ?_
    refine zz_get C (zz_lt h0 (by decide)) (zz_c9 h0) rfl in_X9_now_X9 0 (by decide) (List.mem_of_getElem? (i := 1) rfl) rfl dX9_now_37 ?_
    refine zz_iconst (v := 3) C dX9_now_40 (by decide) ?_
    refine zz_iald C (zz_lt (zz_s9_0 h0) (by decide)) (zz_c13 (zz_s9_0 h0)) dX9_now_41 ?_
    exact zz_iret C hr dX9_now_42
  · refine zz_ite (fun c_2 => ?_) (fun c_2 => ?_)
    · refine zz_tabIn (tgt := 43) C dX9_now_3 (by rw [c_2]; decide) (by rw [c_2]; decide) (by rw [c_2]; rfl) (by decide) ?_
      refine zz_aload_n C dX9_now_43 rfl (lv_at hl 1 rfl) ?_
      refine zz_get C (zz_lt h0 (by decide)) (zz_c9 h0) rfl in_X9_now_X9 0 (by decide) (List.mem_of_getElem? (i := 1) rfl) rfl dX9_now_44 ?_
      refine zz_iconst (v := 1) C dX9_now_47 (by decide) ?_
      refine zz_iald C (zz_lt (zz_s9_0 h0) (by decide)) (zz_c13 (zz_s9_0 h0)) dX9_now_48 ?_
      exact zz_iret C hr dX9_now_49
    · refine zz_ite (fun c_3 => ?_) (fun c_3 => ?_)
      · refine zz_tabIn (tgt := 50) C dX9_now_3 (by rw [c_3]; decide) (by rw [c_3]; decide) (by rw [c_3]; rfl) (by decide) ?_
        refine zz_aload_n C dX9_now_50 rfl (lv_at hl 1 rfl) ?_
        refine zz_get C (zz_lt h0 (by decide)) (zz_c9 h0) rfl in_X9_now_X9 0 (by decide) (List.mem_of_getElem? (i := 1) rfl) rfl dX9_now_51 ?_
        refine zz_iconst (v := 2) C dX9_now_54 (by decide) ?_
        refine zz_iald C (zz_lt (zz_s9_0 h0) (by decide)) (zz_c13 (zz_s9_0 h0)) dX9_now_55 ?_
        exact zz_iret C hr dX9_now_56
      · refine zz_ite (fun c_4 => ?_) (fun c_4 => ?_)
        · refine zz_tabIn (tgt := 57) C dX9_now_3 (by rw [c_4]; decide) (by rw [c_4]; decide) (by rw [c_4]; rfl) (by decide) ?_
          refine zz_iconst (v := 0) C dX9_now_57 (by decide) ?_
          refine zz_istored_n (lv' := [(3, .int (0 : Int32)), (2, .int (0 : Int32)), (0, .ref (E.1 + a0)), (1, .int x1)]) C dX9_now_58 rfl hl (by decide) rfl (fun ls hl => ?_)
          exact wb_X9_now_59 C hr  zz_fuel a0 (0 : Int32) (0 : Int32) h0 M ls (lv_sub hl [2, 1, 0] rfl)
        · refine zz_ite (fun c_5 => ?_) (fun c_5 => ?_)
          · refine zz_tabIn (tgt := 81) C dX9_now_3 (by rw [c_5]; decide) (by rw [c_5]; decide) (by rw [c_5]; rfl) (by decide) ?_
            refine zz_iconst (v := 0) C dX9_now_81 (by decide) ?_
            refine zz_istored_n (lv' := [(3, .int (0 : Int32)), (2, .int (0 : Int32)), (0, .ref (E.1 + a0)), (1, .int x1)]) C dX9_now_82 rfl hl (by decide) rfl (fun ls hl => ?_)
            exact wb_X9_now_83 C hr  zz_fuel a0 (0 : Int32) (0 : Int32) h0 M ls (lv_sub hl [2, 1, 0] rfl)
          · refine zz_tabOut (tgt := 110) C dX9_now_3 (by have q0 : x1.toInt ≠ 0 := zz_ne c_1; have q1 : x1.toInt ≠ 1 := zz_ne c_2; have q2 : x1.toInt ≠ 2 := zz_ne c_3; have q3 : x1.toInt ≠ 3 := zz_ne c_4; have q4 : x1.toInt ≠ 4 := zz_ne c_5; omega) (by decide) ?_
            refine zz_aload_n C dX9_now_110 rfl (lv_at hl 1 rfl) ?_
            refine zz_ldc (v := -1000000001) C (List.mem_of_getElem? (i := 2) rfl) dX9_now_111 ?_
            refine zz_callVi (As := [.int (-1000000001 : Int32)]) (rest := []) C (m_X9_finds l E a0 (-1000000001 : Int32) h0 M) (cwV 1 C.1.2.2.2.2 gX9_now_X9_finds rfl rfl rfl hdV_X9_finds ⟨Nat.le_of_ble_eq_true rfl, Nat.le_of_ble_eq_true rfl⟩) (zz_lt h0 (by decide)) (zz_c9 h0) rfl rfl hl.1 rfl (Nat.le_of_ble_eq_true rfl) dX9_now_113 (fun r_6 M_7 => ?_)
            exact zz_iret C hr dX9_now_116
-- X9_moveAll ('X9', 'moveAll', '(Z[I)V')
theorem in_X9_moveAll_X9 : ∀ w ∈ u_ws RX9 TX9 20, w ∈ wsX9_moveAll := fun _ h => List.mem_cons_of_mem _ (List.mem_append_right _ h)
def b_X9_moveAll_34 (k2 : Nat → Int32 → Nat → Int32 → zz_M → Option (Unit × zz_M)) (a0 : Nat) (x1 : Int32) (a2 : Nat) (x3 : Int32) (M : zz_M) : Option (Unit × zz_M) := zz_w (x3 + (1 : Int32)) (fun x3_5 => k2 a0 x1 a2 x3_5 M)
set_option maxRecDepth 100000 in
set_option maxHeartbeats 4000000 in
theorem wb_X9_moveAll_34 {p : Program} {l : Launch} {e : Env} {s : State} {m : MethodId} {args : Array Value} {below : List Frame} {meth : Method} {c : Code} {E : zz_E} (C : zz_C E RX9 cX9_moveAll 4 wsX9_moveAll p s m args meth c) (hr : meth.sig.returnType = none) {k2 : Nat → Int32 → Nat → Int32 → zz_M → Option (Unit × zz_M)} (hk2 : ∀ (a0 : Nat) (x1 : Int32) (a2 : Nat) (x3 : Int32) (ha0 : zz_sh a0 = 9) (ha2 : zz_sh a2 = 13) (M : zz_M) (ls : Array Slot), lv_has ls 4 [(0, .ref (E.1 + a0)), (1, .int x1), (2, .ref (E.1 + a2)), (3, .int x3)] → zz_Z E p l e (zz_rm 1) s m args below meth c (zz_Q (zz_pv E) E below args s) (k2 a0 x1 a2 x3 M) M (F0 m 2 ls [])) : ∀ (a0 : Nat) (x1 : Int32) (a2 : Nat) (x3 : Int32) (ha0 : zz_sh a0 = 9) (ha2 : zz_sh a2 = 13) (M : zz_M) (ls : Array Slot), lv_has ls 4 [(0, .ref (E.1 + a0)), (1, .int x1), (2, .ref (E.1 + a2)), (3, .int x3)] → zz_Z E p l e (zz_rm 1) s m args below meth c (zz_Q (zz_pv E) E below args s) (b_X9_moveAll_34 k2 a0 x1 a2 x3 M) M (F0 m 34 ls []) := by
  intro a0 x1 a2 x3 ha0 ha2 M ls hl
  unfold b_X9_moveAll_34
  refine zz_iinc (k9 := 3) (d := 1) C (fun x3_5 => [(3, .int x3_5), (0, .ref (E.1 + a0)), (1, .int x1), (2, .ref (E.1 + a2))]) dX9_moveAll_34 hl rfl (by decide) (by decide) (fun _ => rfl) (fun x3_5 ls hl => ?_)
  refine zz_goto (tgt := 2) C dX9_moveAll_37 (by decide) ?_
  exact hk2 a0 x1 a2 x3_5 ha0 ha2 M ls (lv_sub hl [1, 2, 3, 0] rfl)
def b_X9_moveAll_2 : Nat → Nat → Int32 → Nat → Int32 → zz_M → Option (Unit × zz_M)
  | 0 => fun _ _ _ _ _ => none
  | n + 1 => fun a0 x1 a2 x3 M => (if (440 : Int32) ≤ x3 then some ((), M) else (if x1 = 0 then (if zz_in x3 440 = true then (if zz_in x3 440 = true then zz_w (zz_si M 130 (zz_n x3) (zz_i M a2 (zz_n x3))) (fun M_3 => b_X9_moveAll_34 (b_X9_moveAll_2 n) a0 x1 a2 x3 M_3) else none) else none) else (if zz_in x3 440 = true then (if zz_in x3 440 = true then zz_w (zz_si M a2 (zz_n x3) (zz_i M 130 (zz_n x3))) (fun M_4 => b_X9_moveAll_34 (b_X9_moveAll_2 n) a0 x1 a2 x3 M_4) else none) else none)))
set_option maxRecDepth 100000 in
set_option maxHeartbeats 4000000 in
theorem wb_X9_moveAll_2 {p : Program} {l : Launch} {e : Env} {s : State} {m : MethodId} {args : Array Value} {below : List Frame} {meth : Method} {c : Code} {E : zz_E} (C : zz_C E RX9 cX9_moveAll 4 wsX9_moveAll p s m args meth c) (hr : meth.sig.returnType = none) : ∀ (n : Nat) (a0 : Nat) (x1 : Int32) (a2 : Nat) (x3 : Int32) (ha0 : zz_sh a0 = 9) (ha2 : zz_sh a2 = 13) (M : zz_M) (ls : Array Slot), lv_has ls 4 [(0, .ref (E.1 + a0)), (1, .int x1), (2, .ref (E.1 + a2)), (3, .int x3)] → zz_Z E p l e (zz_rm 1) s m args below meth c (zz_Q (zz_pv E) E below args s) (b_X9_moveAll_2 n a0 x1 a2 x3 M) M (F0 m 2 ls []) := by
  intro n
  induction n with
  | zero => intro a0 x1 a2 x3 ha0 ha2 M ls hl; exact zz_none
  | succ n ih =>
    intro a0 x1 a2 x3 ha0 ha2 M ls hl
    rw [b_X9_moveAll_2]
    refine zz_iload_n C dX9_moveAll_2 rfl (lv_at hl 3 rfl) ?_
    refine zz_sipush (v := 440) C dX9_moveAll_3 (by decide) ?_
    refine zz_icmp_ge (tgt := 40) C dX9_moveAll_6 (by decide) (fun c_1 => ?_) (fun c_1 => ?_)
    · exact zz_vret C hr dX9_moveAll_40
    · refine zz_iload_n C dX9_moveAll_9 rfl (lv_at hl 1 rfl) ?_
      refine zz_if_eq (tgt := 25) C dX9_moveAll_10 (by decide) (fun c_2 => ?_) (fun c_2 => ?_)
      · refine zz_aload_n C dX9_moveAll_25 rfl (lv_at hl 0 rfl) ?_
        refine zz_get C (zz_lt ha0 (by decide)) (zz_c9 ha0) rfl in_X9_moveAll_X9 0 (by decide) (List.mem_of_getElem? (i := 1) rfl) rfl dX9_moveAll_26 ?_
        refine zz_iload_n C dX9_moveAll_29 rfl (lv_at hl 3 rfl) ?_
        refine zz_aload_n C dX9_moveAll_30 rfl (lv_at hl 2 rfl) ?_
        refine zz_iload_n C dX9_moveAll_31 rfl (lv_at hl 3 rfl) ?_
        refine zz_iald C (zz_lt ha2 (by decide)) (zz_c13 ha2) dX9_moveAll_32 ?_
        refine zz_iast C (zz_lt (zz_s9_0 ha0) (by decide)) (fun _ => zz_c13 (zz_s9_0 ha0)) dX9_moveAll_33 (fun M_3 => ?_)
        exact wb_X9_moveAll_34 C hr ih a0 x1 a2 x3 ha0 ha2 M_3 ls (lv_sub hl [0, 1, 2, 3] rfl)
      · refine zz_aload_n C dX9_moveAll_13 rfl (lv_at hl 2 rfl) ?_
        refine zz_iload_n C dX9_moveAll_14 rfl (lv_at hl 3 rfl) ?_
        refine zz_aload_n C dX9_moveAll_15 rfl (lv_at hl 0 rfl) ?_
        refine zz_get C (zz_lt ha0 (by decide)) (zz_c9 ha0) rfl in_X9_moveAll_X9 0 (by decide) (List.mem_of_getElem? (i := 1) rfl) rfl dX9_moveAll_16 ?_
        refine zz_iload_n C dX9_moveAll_19 rfl (lv_at hl 3 rfl) ?_
        refine zz_iald C (zz_lt (zz_s9_0 ha0) (by decide)) (zz_c13 (zz_s9_0 ha0)) dX9_moveAll_20 ?_
        refine zz_iast C (zz_lt ha2 (by decide)) (fun _ => zz_c13 ha2) dX9_moveAll_21 (fun M_4 => ?_)
        refine zz_goto (tgt := 34) C dX9_moveAll_22 (by decide) ?_
        exact wb_X9_moveAll_34 C hr ih a0 x1 a2 x3 ha0 ha2 M_4 ls (lv_sub hl [0, 1, 2, 3] rfl)
def f_X9_moveAll (a0 : Nat) (x1 : Int32) (a2 : Nat) (M : zz_M) : Option (Unit × zz_M) := b_X9_moveAll_2  zz_fuel a0 x1 a2 (0 : Int32) M
set_option maxRecDepth 100000 in
set_option maxHeartbeats 4000000 in
theorem m_X9_moveAll (l : Launch) (E : zz_E) (a0 : Nat) (x1 : Int32) (a2 : Nat) (h0 : zz_sh a0 = 9) (h2 : zz_sh a2 = 13) (M : zz_M) : zz_Met (zz_pv E) l yX9_moveAll wsX9_moveAll 1 E [.ref (E.1 + a0), .int x1, .ref (E.1 + a2)] M (f_X9_moveAll a0 x1 a2 M) := by
  refine zz_met (cc := cX9_moveAll) (nL := 4) (ret := none) (by decide) rfl (Nat.le_of_ble_eq_true rfl) ?_
  intro p e s m below meth c C hr ls hl
  have C : zz_C E RX9 cX9_moveAll 4 wsX9_moveAll p s m [.ref (E.1 + a0), .int x1, .ref (E.1 + a2)].toArray meth c := C
  have hl : lv_has ls 4 [(0, .ref (E.1 + a0)), (1, .int x1), (2, .ref (E.1 + a2))] := hl
  unfold f_X9_moveAll
  refine zz_iconst (v := 0) C dX9_moveAll_0 (by decide) ?_
  refine zz_istored_n (lv' := [(3, .int (0 : Int32)), (0, .ref (E.1 + a0)), (1, .int x1), (2, .ref (E.1 + a2))]) C dX9_moveAll_1 rfl hl (by decide) rfl (fun ls hl => ?_)
  exact wb_X9_moveAll_2 C hr  zz_fuel a0 x1 a2 (0 : Int32) h0 h2 M ls (lv_sub hl [1, 2, 3, 0] rfl)
-- X9_warm ('X9', 'warm', '(II)I')
theorem in_X9_warm_X9 : ∀ w ∈ u_ws RX9 TX9 20, w ∈ wsX9_warm := fun _ h => List.mem_cons_of_mem _ (List.mem_append_right _ h)
theorem hdV_X9_moveAll : yX9_moveAll.cls = RX9 ∧ yX9_moveAll.cls ≠ "java/lang/invoke/MethodHandle" ∧ yX9_moveAll.cls ≠ "java/lang/invoke/VarHandle" ∧ (parseMethodDescriptor yX9_moveAll.desc).map (fun d => d.parameters.length) = some 2 := by decide +kernel
def f_X9_warm (a0 : Nat) (x1 : Int32) (x2 : Int32) (M : zz_M) : Option (Int32 × zz_M) := zz_bd (f_X9_isVat x1 M) (fun r_1 M_2 => (if r_1 = 0 then zz_bd (f_X9_finds a0 (-1000000001 : Int32) M_2) (fun r_4 M_5 => some (r_4, M_5)) else zz_bd (f_X9_in x2 (0 : Int32) (200 : Int32) M_2) (fun r_6 M_7 => (if r_6 = 0 then zz_bd (f_X9_finds a0 (-1000000001 : Int32) M_7) (fun r_17 M_18 => some (r_17, M_18)) else (if zz_in (3 : Int32) 440 = true then (if ((zz_i M_7 130 (zz_n (3 : Int32))) + x2) ≤ (9999 : Int32) then zz_bd (f_X9_moveAll a0 (1 : Int32) 132 M_7) (fun _ M_10 => zz_bd (f_X9_go a0 x2 M_10) (fun _ M_11 => zz_bd (f_X9_its a0 x1 (1 : Int32) M_11) (fun r_12 M_13 => zz_bd (f_X9_moveAll a0 (0 : Int32) 132 M_13) (fun _ M_14 => some (r_12, M_14))))) else zz_bd (f_X9_finds a0 (-1000000005 : Int32) M_7) (fun r_15 M_16 => some (r_15, M_16))) else none)))))
set_option maxRecDepth 100000 in
set_option maxHeartbeats 4000000 in
theorem m_X9_warm (l : Launch) (E : zz_E) (a0 : Nat) (x1 : Int32) (x2 : Int32) (h0 : zz_sh a0 = 9) (M : zz_M) : zz_Met (zz_pi E) l yX9_warm wsX9_warm 4 E [.ref (E.1 + a0), .int x1, .int x2] M (f_X9_warm a0 x1 x2 M) := by
  refine zz_met (cc := cX9_warm) (nL := 4) (ret := (some .int)) (by decide) rfl (Nat.le_of_ble_eq_true rfl) ?_
  intro p e s m below meth c C hr ls hl
  have C : zz_C E RX9 cX9_warm 4 wsX9_warm p s m [.ref (E.1 + a0), .int x1, .int x2].toArray meth c := C
  have hl : lv_has ls 4 [(0, .ref (E.1 + a0)), (1, .int x1), (2, .int x2)] := hl
  unfold f_X9_warm
  refine zz_iload_n C dX9_warm_0 rfl (lv_at hl 1 rfl) ?_
  refine zz_callSi (As := [.int x1]) (rest := []) C (m_X9_isVat l E x1  M) (va_cwS 1 C.1.2.2.2.2 gX9_warm_X9_isVat rfl rfl rfl hdS_X9_isVat ⟨Nat.le_of_ble_eq_true rfl, Nat.le_of_ble_eq_true rfl⟩) rfl hl.1 rfl (Nat.le_of_ble_eq_true rfl) dX9_warm_1 (fun r_1 M_2 => ?_)
  refine zz_if_eq (tgt := 18) C dX9_warm_4 (by decide) (fun c_3 => ?_) (fun c_3 => ?_)
  · refine zz_aload_n C dX9_warm_18 rfl (lv_at hl 0 rfl) ?_
    refine zz_ldc (v := -1000000001) C (List.mem_of_getElem? (i := 1) rfl) dX9_warm_19 ?_
    refine zz_callVi (As := [.int (-1000000001 : Int32)]) (rest := []) C (m_X9_finds l E a0 (-1000000001 : Int32) h0 M_2) (cwV 1 C.1.2.2.2.2 gX9_warm_X9_finds rfl rfl rfl hdV_X9_finds ⟨Nat.le_of_ble_eq_true rfl, Nat.le_of_ble_eq_true rfl⟩) (zz_lt h0 (by decide)) (zz_c9 h0) rfl rfl hl.1 rfl (Nat.le_of_ble_eq_true rfl) dX9_warm_21 (fun r_4 M_5 => ?_)
    exact zz_iret C hr dX9_warm_24
  · refine zz_iload_n C dX9_warm_7 rfl (lv_at hl 2 rfl) ?_
    refine zz_iconst (v := 0) C dX9_warm_8 (by decide) ?_
    refine zz_sipush (v := 200) C dX9_warm_9 (by decide) ?_
    refine zz_callSi (As := [.int x2, .int (0 : Int32), .int (200 : Int32)]) (rest := []) C (m_X9_in l E x2 (0 : Int32) (200 : Int32)  M_2) (va_cwS 3 C.1.2.2.2.2 gX9_warm_X9_in rfl rfl rfl hdS_X9_in ⟨Nat.le_of_ble_eq_true rfl, Nat.le_of_ble_eq_true rfl⟩) rfl hl.1 rfl (Nat.le_of_ble_eq_true rfl) dX9_warm_12 (fun r_6 M_7 => ?_)
    refine zz_if_ne (tgt := 25) C dX9_warm_15 (by decide) (fun c_8 => ?_) (fun c_8 => ?_)
    · refine zz_aload_n C dX9_warm_18 rfl (lv_at hl 0 rfl) ?_
      refine zz_ldc (v := -1000000001) C (List.mem_of_getElem? (i := 1) rfl) dX9_warm_19 ?_
      refine zz_callVi (As := [.int (-1000000001 : Int32)]) (rest := []) C (m_X9_finds l E a0 (-1000000001 : Int32) h0 M_7) (cwV 1 C.1.2.2.2.2 gX9_warm_X9_finds rfl rfl rfl hdV_X9_finds ⟨Nat.le_of_ble_eq_true rfl, Nat.le_of_ble_eq_true rfl⟩) (zz_lt h0 (by decide)) (zz_c9 h0) rfl rfl hl.1 rfl (Nat.le_of_ble_eq_true rfl) dX9_warm_21 (fun r_17 M_18 => ?_)
      exact zz_iret C hr dX9_warm_24
    · refine zz_aload_n C dX9_warm_25 rfl (lv_at hl 0 rfl) ?_
      refine zz_get C (zz_lt h0 (by decide)) (zz_c9 h0) rfl in_X9_warm_X9 0 (by decide) (List.mem_of_getElem? (i := 2) rfl) rfl dX9_warm_26 ?_
      refine zz_iconst (v := 3) C dX9_warm_29 (by decide) ?_
      refine zz_iald C (zz_lt (zz_s9_0 h0) (by decide)) (zz_c13 (zz_s9_0 h0)) dX9_warm_30 ?_
      refine zz_iload_n C dX9_warm_31 rfl (lv_at hl 2 rfl) ?_
      refine zz_iadd C dX9_warm_32 ?_
      refine zz_sipush (v := 9999) C dX9_warm_33 (by decide) ?_
      refine zz_icmp_le (tgt := 46) C dX9_warm_36 (by decide) (fun c_9 => ?_) (fun c_9 => ?_)
      · refine zz_aload_n C dX9_warm_46 rfl (lv_at hl 0 rfl) ?_
        refine zz_iconst (v := 1) C dX9_warm_47 (by decide) ?_
        refine zz_aload_n C dX9_warm_48 rfl (lv_at hl 0 rfl) ?_
        refine zz_get C (zz_lt h0 (by decide)) (zz_c9 h0) rfl in_X9_warm_X9 2 (by decide) (List.mem_of_getElem? (i := 4) rfl) rfl dX9_warm_49 ?_
        refine zz_callVv (As := [.int (1 : Int32), .ref (E.1 + 132)]) (rest := []) C (m_X9_moveAll l E a0 (1 : Int32) 132 h0 (zz_s9_2 h0) M_7) (cwV 2 C.1.2.2.2.2 gX9_warm_X9_moveAll rfl rfl rfl hdV_X9_moveAll ⟨Nat.le_of_ble_eq_true rfl, Nat.le_of_ble_eq_true rfl⟩) (zz_lt h0 (by decide)) (zz_c9 h0) rfl rfl hl.1 rfl (Nat.le_of_ble_eq_true rfl) dX9_warm_52 (fun _ M_10 => ?_)
        refine zz_aload_n C dX9_warm_55 rfl (lv_at hl 0 rfl) ?_
        refine zz_iload_n C dX9_warm_56 rfl (lv_at hl 2 rfl) ?_
        refine zz_callVv (As := [.int x2]) (rest := []) C (m_X9_go l E a0 x2 h0 M_10) (cwV 1 C.1.2.2.2.2 gX9_warm_X9_go rfl rfl rfl hdV_X9_go ⟨Nat.le_of_ble_eq_true rfl, Nat.le_of_ble_eq_true rfl⟩) (zz_lt h0 (by decide)) (zz_c9 h0) rfl rfl hl.1 rfl (Nat.le_of_ble_eq_true rfl) dX9_warm_57 (fun _ M_11 => ?_)
        refine zz_aload_n C dX9_warm_60 rfl (lv_at hl 0 rfl) ?_
        refine zz_iload_n C dX9_warm_61 rfl (lv_at hl 1 rfl) ?_
        refine zz_iconst (v := 1) C dX9_warm_62 (by decide) ?_
        refine zz_callVi (As := [.int x1, .int (1 : Int32)]) (rest := []) C (m_X9_its l E a0 x1 (1 : Int32) h0 M_11) (cwV 2 C.1.2.2.2.2 gX9_warm_X9_its rfl rfl rfl hdV_X9_its ⟨Nat.le_of_ble_eq_true rfl, Nat.le_of_ble_eq_true rfl⟩) (zz_lt h0 (by decide)) (zz_c9 h0) rfl rfl hl.1 rfl (Nat.le_of_ble_eq_true rfl) dX9_warm_63 (fun r_12 M_13 => ?_)
        refine zz_istored_n (lv' := [(3, .int r_12), (0, .ref (E.1 + a0)), (1, .int x1), (2, .int x2)]) C dX9_warm_66 rfl hl (by decide) rfl (fun ls hl => ?_)
        refine zz_aload_n C dX9_warm_67 rfl (lv_at hl 1 rfl) ?_
        refine zz_iconst (v := 0) C dX9_warm_68 (by decide) ?_
        refine zz_aload_n C dX9_warm_69 rfl (lv_at hl 1 rfl) ?_
        refine zz_get C (zz_lt h0 (by decide)) (zz_c9 h0) rfl in_X9_warm_X9 2 (by decide) (List.mem_of_getElem? (i := 4) rfl) rfl dX9_warm_70 ?_
        refine zz_callVv (As := [.int (0 : Int32), .ref (E.1 + 132)]) (rest := []) C (m_X9_moveAll l E a0 (0 : Int32) 132 h0 (zz_s9_2 h0) M_13) (cwV 2 C.1.2.2.2.2 gX9_warm_X9_moveAll rfl rfl rfl hdV_X9_moveAll ⟨Nat.le_of_ble_eq_true rfl, Nat.le_of_ble_eq_true rfl⟩) (zz_lt h0 (by decide)) (zz_c9 h0) rfl rfl hl.1 rfl (Nat.le_of_ble_eq_true rfl) dX9_warm_73 (fun _ M_14 => ?_)
        refine zz_iload_n C dX9_warm_76 rfl (lv_at hl 0 rfl) ?_
        exact zz_iret C hr dX9_warm_77
      · refine zz_aload_n C dX9_warm_39 rfl (lv_at hl 0 rfl) ?_
        refine zz_ldc (v := -1000000005) C (List.mem_of_getElem? (i := 3) rfl) dX9_warm_40 ?_
        refine zz_callVi (As := [.int (-1000000005 : Int32)]) (rest := []) C (m_X9_finds l E a0 (-1000000005 : Int32) h0 M_7) (cwV 1 C.1.2.2.2.2 gX9_warm_X9_finds rfl rfl rfl hdV_X9_finds ⟨Nat.le_of_ble_eq_true rfl, Nat.le_of_ble_eq_true rfl⟩) (zz_lt h0 (by decide)) (zz_c9 h0) rfl rfl hl.1 rfl (Nat.le_of_ble_eq_true rfl) dX9_warm_42 (fun r_15 M_16 => ?_)
        exact zz_iret C hr dX9_warm_45
-- X9_when ('X9', 'when', '(II)I')
theorem in_X9_when_X9 : ∀ w ∈ u_ws RX9 TX9 20, w ∈ wsX9_when := fun _ h => List.mem_cons_of_mem _ (List.mem_append_right _ h)
def b_X9_when_81 (a0 : Nat) (x3 : Int32) (M : zz_M) : Option (Int32 × zz_M) := zz_bd (f_X9_moveAll a0 (0 : Int32) 132 M) (fun _ M_21 => (if (200 : Int32) < x3 then zz_bd (f_X9_finds a0 (-1000000004 : Int32) M_21) (fun r_23 M_24 => some (r_23, M_24)) else some (x3, M_21)))
set_option maxRecDepth 100000 in
set_option maxHeartbeats 4000000 in
theorem wb_X9_when_81 {p : Program} {l : Launch} {e : Env} {s : State} {m : MethodId} {args : Array Value} {below : List Frame} {meth : Method} {c : Code} {E : zz_E} (C : zz_C E RX9 cX9_when 4 wsX9_when p s m args meth c) (hr : meth.sig.returnType = (some .int)) : ∀ (a0 : Nat) (x3 : Int32) (ha0 : zz_sh a0 = 9) (M : zz_M) (ls : Array Slot), lv_has ls 4 [(0, .ref (E.1 + a0)), (3, .int x3)] → zz_Z E p l e (zz_rm 3) s m args below meth c (zz_Q (zz_pi E) E below args s) (b_X9_when_81 a0 x3 M) M (F0 m 81 ls []) := by
  intro a0 x3 ha0 M ls hl
  unfold b_X9_when_81
  refine zz_aload_n C dX9_when_81 rfl (lv_at hl 0 rfl) ?_
  refine zz_iconst (v := 0) C dX9_when_82 (by decide) ?_
  refine zz_aload_n C dX9_when_83 rfl (lv_at hl 0 rfl) ?_
  refine zz_get C (zz_lt ha0 (by decide)) (zz_c9 ha0) rfl in_X9_when_X9 2 (by decide) (List.mem_of_getElem? (i := 4) rfl) rfl dX9_when_84 ?_
  refine zz_callVv (As := [.int (0 : Int32), .ref (E.1 + 132)]) (rest := []) C (m_X9_moveAll l E a0 (0 : Int32) 132 ha0 (zz_s9_2 ha0) M) (cwV 2 C.1.2.2.2.2 gX9_when_X9_moveAll rfl rfl rfl hdV_X9_moveAll ⟨Nat.le_of_ble_eq_true rfl, Nat.le_of_ble_eq_true rfl⟩) (zz_lt ha0 (by decide)) (zz_c9 ha0) rfl rfl hl.1 rfl (Nat.le_of_ble_eq_true rfl) dX9_when_87 (fun _ M_21 => ?_)
  refine zz_iload_n C dX9_when_90 rfl (lv_at hl 1 rfl) ?_
  refine zz_sipush (v := 200) C dX9_when_91 (by decide) ?_
  refine zz_icmp_gt (tgt := 101) C dX9_when_94 (by decide) (fun c_22 => ?_) (fun c_22 => ?_)
  · refine zz_aload_n C dX9_when_101 rfl (lv_at hl 0 rfl) ?_
    refine zz_ldc (v := -1000000004) C (List.mem_of_getElem? (i := 5) rfl) dX9_when_102 ?_
    refine zz_callVi (As := [.int (-1000000004 : Int32)]) (rest := []) C (m_X9_finds l E a0 (-1000000004 : Int32) ha0 M_21) (cwV 1 C.1.2.2.2.2 gX9_when_X9_finds rfl rfl rfl hdV_X9_finds ⟨Nat.le_of_ble_eq_true rfl, Nat.le_of_ble_eq_true rfl⟩) (zz_lt ha0 (by decide)) (zz_c9 ha0) rfl rfl hl.1 rfl (Nat.le_of_ble_eq_true rfl) dX9_when_104 (fun r_23 M_24 => ?_)
    exact zz_iret C hr dX9_when_107
  · refine zz_iload_n C dX9_when_97 rfl (lv_at hl 1 rfl) ?_
    refine zz_goto (tgt := 107) C dX9_when_98 (by decide) ?_
    exact zz_iret C hr dX9_when_107
def b_X9_when_54 : Nat → Nat → Int32 → Int32 → Int32 → zz_M → Option (Int32 × zz_M)
  | 0 => fun _ _ _ _ _ => none
  | n + 1 => fun a0 x1 x2 x3 M => (if (200 : Int32) < x3 then b_X9_when_81  a0 x3 M else zz_bd (f_X9_its a0 x1 (1 : Int32) M) (fun r_16 M_17 => (if x2 ≤ r_16 then b_X9_when_81  a0 x3 M_17 else zz_bd (f_X9_anHour a0 M_17) (fun _ M_19 => zz_w (x3 + (1 : Int32)) (fun x3_20 => (b_X9_when_54 n) a0 x1 x2 x3_20 M_19)))))
set_option maxRecDepth 100000 in
set_option maxHeartbeats 4000000 in
theorem wb_X9_when_54 {p : Program} {l : Launch} {e : Env} {s : State} {m : MethodId} {args : Array Value} {below : List Frame} {meth : Method} {c : Code} {E : zz_E} (C : zz_C E RX9 cX9_when 4 wsX9_when p s m args meth c) (hr : meth.sig.returnType = (some .int)) : ∀ (n : Nat) (a0 : Nat) (x1 : Int32) (x2 : Int32) (x3 : Int32) (ha0 : zz_sh a0 = 9) (M : zz_M) (ls : Array Slot), lv_has ls 4 [(0, .ref (E.1 + a0)), (1, .int x1), (2, .int x2), (3, .int x3)] → zz_Z E p l e (zz_rm 3) s m args below meth c (zz_Q (zz_pi E) E below args s) (b_X9_when_54 n a0 x1 x2 x3 M) M (F0 m 54 ls []) := by
  intro n
  induction n with
  | zero => intro a0 x1 x2 x3 ha0 M ls hl; exact zz_none
  | succ n ih =>
    intro a0 x1 x2 x3 ha0 M ls hl
    rw [b_X9_when_54]
    refine zz_iload_n C dX9_when_54 rfl (lv_at hl 3 rfl) ?_
    refine zz_sipush (v := 200) C dX9_when_55 (by decide) ?_
    refine zz_icmp_gt (tgt := 81) C dX9_when_58 (by decide) (fun c_15 => ?_) (fun c_15 => ?_)
    · exact wb_X9_when_81 C hr  a0 x3 ha0 M ls (lv_sub hl [0, 3] rfl)
    · refine zz_aload_n C dX9_when_61 rfl (lv_at hl 0 rfl) ?_
      refine zz_iload_n C dX9_when_62 rfl (lv_at hl 1 rfl) ?_
      refine zz_iconst (v := 1) C dX9_when_63 (by decide) ?_
      refine zz_callVi (As := [.int x1, .int (1 : Int32)]) (rest := []) C (m_X9_its l E a0 x1 (1 : Int32) ha0 M) (cwV 2 C.1.2.2.2.2 gX9_when_X9_its rfl rfl rfl hdV_X9_its ⟨Nat.le_of_ble_eq_true rfl, Nat.le_of_ble_eq_true rfl⟩) (zz_lt ha0 (by decide)) (zz_c9 ha0) rfl rfl hl.1 rfl (Nat.le_of_ble_eq_true rfl) dX9_when_64 (fun r_16 M_17 => ?_)
      refine zz_iload_n C dX9_when_67 rfl (lv_at hl 2 rfl) ?_
      refine zz_icmp_ge (tgt := 81) C dX9_when_68 (by decide) (fun c_18 => ?_) (fun c_18 => ?_)
      · exact wb_X9_when_81 C hr  a0 x3 ha0 M_17 ls (lv_sub hl [0, 3] rfl)
      · refine zz_aload_n C dX9_when_71 rfl (lv_at hl 0 rfl) ?_
        refine zz_callVv (As := []) (rest := []) C (m_X9_anHour l E a0 ha0 M_17) (cwV 0 C.1.2.2.2.2 gX9_when_X9_anHour rfl rfl rfl hdV_X9_anHour ⟨Nat.le_of_ble_eq_true rfl, Nat.le_of_ble_eq_true rfl⟩) (zz_lt ha0 (by decide)) (zz_c9 ha0) rfl rfl hl.1 rfl (Nat.le_of_ble_eq_true rfl) dX9_when_72 (fun _ M_19 => ?_)
        refine zz_iinc (k9 := 3) (d := 1) C (fun x3_20 => [(3, .int x3_20), (0, .ref (E.1 + a0)), (1, .int x1), (2, .int x2)]) dX9_when_75 hl rfl (by decide) (by decide) (fun _ => rfl) (fun x3_20 ls hl => ?_)
        refine zz_goto (tgt := 54) C dX9_when_78 (by decide) ?_
        exact ih a0 x1 x2 x3_20 ha0 M_19 ls (lv_sub hl [1, 2, 3, 0] rfl)
def f_X9_when (a0 : Nat) (x1 : Int32) (x2 : Int32) (M : zz_M) : Option (Int32 × zz_M) := zz_bd (f_X9_isVat x1 M) (fun r_1 M_2 => (if r_1 = 0 then zz_bd (f_X9_finds a0 (-1000000001 : Int32) M_2) (fun r_4 M_5 => some (r_4, M_5)) else zz_bd (f_X9_in x2 (0 : Int32) (99 : Int32) M_2) (fun r_6 M_7 => (if r_6 = 0 then zz_bd (f_X9_finds a0 (-1000000001 : Int32) M_7) (fun r_13 M_14 => some (r_13, M_14)) else (if zz_in (3 : Int32) 440 = true then (if (zz_i M_7 130 (zz_n (3 : Int32))) ≤ (9799 : Int32) then zz_bd (f_X9_moveAll a0 (1 : Int32) 132 M_7) (fun _ M_10 => b_X9_when_54  zz_fuel a0 x1 x2 (0 : Int32) M_10) else zz_bd (f_X9_finds a0 (-1000000005 : Int32) M_7) (fun r_11 M_12 => some (r_11, M_12))) else none)))))
set_option maxRecDepth 100000 in
set_option maxHeartbeats 4000000 in
theorem m_X9_when (l : Launch) (E : zz_E) (a0 : Nat) (x1 : Int32) (x2 : Int32) (h0 : zz_sh a0 = 9) (M : zz_M) : zz_Met (zz_pi E) l yX9_when wsX9_when 3 E [.ref (E.1 + a0), .int x1, .int x2] M (f_X9_when a0 x1 x2 M) := by
  refine zz_met (cc := cX9_when) (nL := 4) (ret := (some .int)) (by decide) rfl (Nat.le_of_ble_eq_true rfl) ?_
  intro p e s m below meth c C hr ls hl
  have C : zz_C E RX9 cX9_when 4 wsX9_when p s m [.ref (E.1 + a0), .int x1, .int x2].toArray meth c := C
  have hl : lv_has ls 4 [(0, .ref (E.1 + a0)), (1, .int x1), (2, .int x2)] := hl
  unfold f_X9_when
  refine zz_iload_n C dX9_when_0 rfl (lv_at hl 1 rfl) ?_
  refine zz_callSi (As := [.int x1]) (rest := []) C (m_X9_isVat l E x1  M) (va_cwS 1 C.1.2.2.2.2 gX9_when_X9_isVat rfl rfl rfl hdS_X9_isVat ⟨Nat.le_of_ble_eq_true rfl, Nat.le_of_ble_eq_true rfl⟩) rfl hl.1 rfl (Nat.le_of_ble_eq_true rfl) dX9_when_1 (fun r_1 M_2 => ?_)
  refine zz_if_eq (tgt := 17) C dX9_when_4 (by decide) (fun c_3 => ?_) (fun c_3 => ?_)
  · refine zz_aload_n C dX9_when_17 rfl (lv_at hl 0 rfl) ?_
    refine zz_ldc (v := -1000000001) C (List.mem_of_getElem? (i := 1) rfl) dX9_when_18 ?_
    refine zz_callVi (As := [.int (-1000000001 : Int32)]) (rest := []) C (m_X9_finds l E a0 (-1000000001 : Int32) h0 M_2) (cwV 1 C.1.2.2.2.2 gX9_when_X9_finds rfl rfl rfl hdV_X9_finds ⟨Nat.le_of_ble_eq_true rfl, Nat.le_of_ble_eq_true rfl⟩) (zz_lt h0 (by decide)) (zz_c9 h0) rfl rfl hl.1 rfl (Nat.le_of_ble_eq_true rfl) dX9_when_20 (fun r_4 M_5 => ?_)
    exact zz_iret C hr dX9_when_23
  · refine zz_iload_n C dX9_when_7 rfl (lv_at hl 2 rfl) ?_
    refine zz_iconst (v := 0) C dX9_when_8 (by decide) ?_
    refine zz_bipush (v := 99) C dX9_when_9 (by decide) ?_
    refine zz_callSi (As := [.int x2, .int (0 : Int32), .int (99 : Int32)]) (rest := []) C (m_X9_in l E x2 (0 : Int32) (99 : Int32)  M_2) (va_cwS 3 C.1.2.2.2.2 gX9_when_X9_in rfl rfl rfl hdS_X9_in ⟨Nat.le_of_ble_eq_true rfl, Nat.le_of_ble_eq_true rfl⟩) rfl hl.1 rfl (Nat.le_of_ble_eq_true rfl) dX9_when_11 (fun r_6 M_7 => ?_)
    refine zz_if_ne (tgt := 24) C dX9_when_14 (by decide) (fun c_8 => ?_) (fun c_8 => ?_)
    · refine zz_aload_n C dX9_when_17 rfl (lv_at hl 0 rfl) ?_
      refine zz_ldc (v := -1000000001) C (List.mem_of_getElem? (i := 1) rfl) dX9_when_18 ?_
      refine zz_callVi (As := [.int (-1000000001 : Int32)]) (rest := []) C (m_X9_finds l E a0 (-1000000001 : Int32) h0 M_7) (cwV 1 C.1.2.2.2.2 gX9_when_X9_finds rfl rfl rfl hdV_X9_finds ⟨Nat.le_of_ble_eq_true rfl, Nat.le_of_ble_eq_true rfl⟩) (zz_lt h0 (by decide)) (zz_c9 h0) rfl rfl hl.1 rfl (Nat.le_of_ble_eq_true rfl) dX9_when_20 (fun r_13 M_14 => ?_)
      exact zz_iret C hr dX9_when_23
    · refine zz_aload_n C dX9_when_24 rfl (lv_at hl 0 rfl) ?_
      refine zz_get C (zz_lt h0 (by decide)) (zz_c9 h0) rfl in_X9_when_X9 0 (by decide) (List.mem_of_getElem? (i := 2) rfl) rfl dX9_when_25 ?_
      refine zz_iconst (v := 3) C dX9_when_28 (by decide) ?_
      refine zz_iald C (zz_lt (zz_s9_0 h0) (by decide)) (zz_c13 (zz_s9_0 h0)) dX9_when_29 ?_
      refine zz_sipush (v := 9799) C dX9_when_30 (by decide) ?_
      refine zz_icmp_le (tgt := 43) C dX9_when_33 (by decide) (fun c_9 => ?_) (fun c_9 => ?_)
      · refine zz_aload_n C dX9_when_43 rfl (lv_at hl 0 rfl) ?_
        refine zz_iconst (v := 1) C dX9_when_44 (by decide) ?_
        refine zz_aload_n C dX9_when_45 rfl (lv_at hl 0 rfl) ?_
        refine zz_get C (zz_lt h0 (by decide)) (zz_c9 h0) rfl in_X9_when_X9 2 (by decide) (List.mem_of_getElem? (i := 4) rfl) rfl dX9_when_46 ?_
        refine zz_callVv (As := [.int (1 : Int32), .ref (E.1 + 132)]) (rest := []) C (m_X9_moveAll l E a0 (1 : Int32) 132 h0 (zz_s9_2 h0) M_7) (cwV 2 C.1.2.2.2.2 gX9_when_X9_moveAll rfl rfl rfl hdV_X9_moveAll ⟨Nat.le_of_ble_eq_true rfl, Nat.le_of_ble_eq_true rfl⟩) (zz_lt h0 (by decide)) (zz_c9 h0) rfl rfl hl.1 rfl (Nat.le_of_ble_eq_true rfl) dX9_when_49 (fun _ M_10 => ?_)
        refine zz_iconst (v := 0) C dX9_when_52 (by decide) ?_
        refine zz_istored_n (lv' := [(3, .int (0 : Int32)), (0, .ref (E.1 + a0)), (1, .int x1), (2, .int x2)]) C dX9_when_53 rfl hl (by decide) rfl (fun ls hl => ?_)
        exact wb_X9_when_54 C hr  zz_fuel a0 x1 x2 (0 : Int32) h0 M_10 ls (lv_sub hl [1, 2, 3, 0] rfl)
      · refine zz_aload_n C dX9_when_36 rfl (lv_at hl 0 rfl) ?_
        refine zz_ldc (v := -1000000005) C (List.mem_of_getElem? (i := 3) rfl) dX9_when_37 ?_
        refine zz_callVi (As := [.int (-1000000005 : Int32)]) (rest := []) C (m_X9_finds l E a0 (-1000000005 : Int32) h0 M_7) (cwV 1 C.1.2.2.2.2 gX9_when_X9_finds rfl rfl rfl hdV_X9_finds ⟨Nat.le_of_ble_eq_true rfl, Nat.le_of_ble_eq_true rfl⟩) (zz_lt h0 (by decide)) (zz_c9 h0) rfl rfl hl.1 rfl (Nat.le_of_ble_eq_true rfl) dX9_when_39 (fun r_11 M_12 => ?_)
        exact zz_iret C hr dX9_when_42
-- X9_takesIn ('X9', 'takesIn', '(III)I')
theorem in_X9_takesIn_X9 : ∀ w ∈ u_ws RX9 TX9 20, w ∈ wsX9_takesIn := fun _ h => List.mem_cons_of_mem _ (List.mem_append_right _ h)
def b_X9_takesIn_96 (a0 : Nat) (x4 : Int32) (M : zz_M) : Option (Int32 × zz_M) := zz_bd (f_X9_moveAll a0 (0 : Int32) 132 M) (fun _ M_28 => (if (200 : Int32) < x4 then zz_bd (f_X9_finds a0 (-1000000004 : Int32) M_28) (fun r_30 M_31 => some (r_30, M_31)) else some (x4, M_28)))
set_option maxRecDepth 100000 in
set_option maxHeartbeats 4000000 in
theorem wb_X9_takesIn_96 {p : Program} {l : Launch} {e : Env} {s : State} {m : MethodId} {args : Array Value} {below : List Frame} {meth : Method} {c : Code} {E : zz_E} (C : zz_C E RX9 cX9_takesIn 5 wsX9_takesIn p s m args meth c) (hr : meth.sig.returnType = (some .int)) : ∀ (a0 : Nat) (x4 : Int32) (ha0 : zz_sh a0 = 9) (M : zz_M) (ls : Array Slot), lv_has ls 5 [(0, .ref (E.1 + a0)), (4, .int x4)] → zz_Z E p l e (zz_rm 4) s m args below meth c (zz_Q (zz_pi E) E below args s) (b_X9_takesIn_96 a0 x4 M) M (F0 m 96 ls []) := by
  intro a0 x4 ha0 M ls hl
  unfold b_X9_takesIn_96
  refine zz_aload_n C dX9_takesIn_96 rfl (lv_at hl 0 rfl) ?_
  refine zz_iconst (v := 0) C dX9_takesIn_97 (by decide) ?_
  refine zz_aload_n C dX9_takesIn_98 rfl (lv_at hl 0 rfl) ?_
  refine zz_get C (zz_lt ha0 (by decide)) (zz_c9 ha0) rfl in_X9_takesIn_X9 2 (by decide) (List.mem_of_getElem? (i := 4) rfl) rfl dX9_takesIn_99 ?_
  refine zz_callVv (As := [.int (0 : Int32), .ref (E.1 + 132)]) (rest := []) C (m_X9_moveAll l E a0 (0 : Int32) 132 ha0 (zz_s9_2 ha0) M) (cwV 2 C.1.2.2.2.2 gX9_takesIn_X9_moveAll rfl rfl rfl hdV_X9_moveAll ⟨Nat.le_of_ble_eq_true rfl, Nat.le_of_ble_eq_true rfl⟩) (zz_lt ha0 (by decide)) (zz_c9 ha0) rfl rfl hl.1 rfl (Nat.le_of_ble_eq_true rfl) dX9_takesIn_102 (fun _ M_28 => ?_)
  refine zz_iload C dX9_takesIn_105 (lv_at hl 1 rfl) ?_
  refine zz_sipush (v := 200) C dX9_takesIn_107 (by decide) ?_
  refine zz_icmp_gt (tgt := 118) C dX9_takesIn_110 (by decide) (fun c_29 => ?_) (fun c_29 => ?_)
  · refine zz_aload_n C dX9_takesIn_118 rfl (lv_at hl 0 rfl) ?_
    refine zz_ldc (v := -1000000004) C (List.mem_of_getElem? (i := 5) rfl) dX9_takesIn_119 ?_
    refine zz_callVi (As := [.int (-1000000004 : Int32)]) (rest := []) C (m_X9_finds l E a0 (-1000000004 : Int32) ha0 M_28) (cwV 1 C.1.2.2.2.2 gX9_takesIn_X9_finds rfl rfl rfl hdV_X9_finds ⟨Nat.le_of_ble_eq_true rfl, Nat.le_of_ble_eq_true rfl⟩) (zz_lt ha0 (by decide)) (zz_c9 ha0) rfl rfl hl.1 rfl (Nat.le_of_ble_eq_true rfl) dX9_takesIn_121 (fun r_30 M_31 => ?_)
    exact zz_iret C hr dX9_takesIn_124
  · refine zz_iload C dX9_takesIn_113 (lv_at hl 1 rfl) ?_
    refine zz_goto (tgt := 124) C dX9_takesIn_115 (by decide) ?_
    exact zz_iret C hr dX9_takesIn_124
def b_X9_takesIn_63 : Nat → Nat → Int32 → Int32 → Int32 → Int32 → zz_M → Option (Int32 × zz_M)
  | 0 => fun _ _ _ _ _ _ => none
  | n + 1 => fun a0 x1 x2 x3 x4 M => (if (200 : Int32) < x4 then b_X9_takesIn_96  a0 x4 M else zz_bd (f_X9_its a0 x2 (1 : Int32) M) (fun r_21 M_22 => zz_bd (f_X9_takesAt a0 x1 r_21 M_22) (fun r_23 M_24 => (if x3 ≤ r_23 then b_X9_takesIn_96  a0 x4 M_24 else zz_bd (f_X9_anHour a0 M_24) (fun _ M_26 => zz_w (x4 + (1 : Int32)) (fun x4_27 => (b_X9_takesIn_63 n) a0 x1 x2 x3 x4_27 M_26))))))
set_option maxRecDepth 100000 in
set_option maxHeartbeats 4000000 in
theorem wb_X9_takesIn_63 {p : Program} {l : Launch} {e : Env} {s : State} {m : MethodId} {args : Array Value} {below : List Frame} {meth : Method} {c : Code} {E : zz_E} (C : zz_C E RX9 cX9_takesIn 5 wsX9_takesIn p s m args meth c) (hr : meth.sig.returnType = (some .int)) : ∀ (n : Nat) (a0 : Nat) (x1 : Int32) (x2 : Int32) (x3 : Int32) (x4 : Int32) (ha0 : zz_sh a0 = 9) (M : zz_M) (ls : Array Slot), lv_has ls 5 [(0, .ref (E.1 + a0)), (1, .int x1), (2, .int x2), (3, .int x3), (4, .int x4)] → zz_Z E p l e (zz_rm 4) s m args below meth c (zz_Q (zz_pi E) E below args s) (b_X9_takesIn_63 n a0 x1 x2 x3 x4 M) M (F0 m 63 ls []) := by
  intro n
  induction n with
  | zero => intro a0 x1 x2 x3 x4 ha0 M ls hl; exact zz_none
  | succ n ih =>
    intro a0 x1 x2 x3 x4 ha0 M ls hl
    rw [b_X9_takesIn_63]
    refine zz_iload C dX9_takesIn_63 (lv_at hl 4 rfl) ?_
    refine zz_sipush (v := 200) C dX9_takesIn_65 (by decide) ?_
    refine zz_icmp_gt (tgt := 96) C dX9_takesIn_68 (by decide) (fun c_20 => ?_) (fun c_20 => ?_)
    · exact wb_X9_takesIn_96 C hr  a0 x4 ha0 M ls (lv_sub hl [0, 4] rfl)
    · refine zz_aload_n C dX9_takesIn_71 rfl (lv_at hl 0 rfl) ?_
      refine zz_iload_n C dX9_takesIn_72 rfl (lv_at hl 1 rfl) ?_
      refine zz_aload_n C dX9_takesIn_73 rfl (lv_at hl 0 rfl) ?_
      refine zz_iload_n C dX9_takesIn_74 rfl (lv_at hl 2 rfl) ?_
      refine zz_iconst (v := 1) C dX9_takesIn_75 (by decide) ?_
      refine zz_callVi (As := [.int x2, .int (1 : Int32)]) (rest := [.int x1, .ref (E.1 + a0)]) C (m_X9_its l E a0 x2 (1 : Int32) ha0 M) (cwV 2 C.1.2.2.2.2 gX9_takesIn_X9_its rfl rfl rfl hdV_X9_its ⟨Nat.le_of_ble_eq_true rfl, Nat.le_of_ble_eq_true rfl⟩) (zz_lt ha0 (by decide)) (zz_c9 ha0) rfl rfl hl.1 rfl (Nat.le_of_ble_eq_true rfl) dX9_takesIn_76 (fun r_21 M_22 => ?_)
      refine zz_callVi (As := [.int x1, .int r_21]) (rest := []) C (m_X9_takesAt l E a0 x1 r_21 ha0 M_22) (cwV 2 C.1.2.2.2.2 gX9_takesIn_X9_takesAt rfl rfl rfl hdV_X9_takesAt ⟨Nat.le_of_ble_eq_true rfl, Nat.le_of_ble_eq_true rfl⟩) (zz_lt ha0 (by decide)) (zz_c9 ha0) rfl rfl hl.1 rfl (Nat.le_of_ble_eq_true rfl) dX9_takesIn_79 (fun r_23 M_24 => ?_)
      refine zz_iload_n C dX9_takesIn_82 rfl (lv_at hl 3 rfl) ?_
      refine zz_icmp_ge (tgt := 96) C dX9_takesIn_83 (by decide) (fun c_25 => ?_) (fun c_25 => ?_)
      · exact wb_X9_takesIn_96 C hr  a0 x4 ha0 M_24 ls (lv_sub hl [0, 4] rfl)
      · refine zz_aload_n C dX9_takesIn_86 rfl (lv_at hl 0 rfl) ?_
        refine zz_callVv (As := []) (rest := []) C (m_X9_anHour l E a0 ha0 M_24) (cwV 0 C.1.2.2.2.2 gX9_takesIn_X9_anHour rfl rfl rfl hdV_X9_anHour ⟨Nat.le_of_ble_eq_true rfl, Nat.le_of_ble_eq_true rfl⟩) (zz_lt ha0 (by decide)) (zz_c9 ha0) rfl rfl hl.1 rfl (Nat.le_of_ble_eq_true rfl) dX9_takesIn_87 (fun _ M_26 => ?_)
        refine zz_iinc (k9 := 4) (d := 1) C (fun x4_27 => [(4, .int x4_27), (0, .ref (E.1 + a0)), (1, .int x1), (2, .int x2), (3, .int x3)]) dX9_takesIn_90 hl rfl (by decide) (by decide) (fun _ => rfl) (fun x4_27 ls hl => ?_)
        refine zz_goto (tgt := 63) C dX9_takesIn_93 (by decide) ?_
        exact ih a0 x1 x2 x3 x4_27 ha0 M_26 ls (lv_sub hl [1, 2, 3, 4, 0] rfl)
def f_X9_takesIn (a0 : Nat) (x1 : Int32) (x2 : Int32) (x3 : Int32) (M : zz_M) : Option (Int32 × zz_M) := zz_bd (f_X9_isCandle a0 x1 M) (fun r_1 M_2 => (if r_1 = 0 then zz_bd (f_X9_finds a0 (-1000000001 : Int32) M_2) (fun r_4 M_5 => some (r_4, M_5)) else zz_bd (f_X9_isVat x2 M_2) (fun r_6 M_7 => (if r_6 = 0 then zz_bd (f_X9_finds a0 (-1000000001 : Int32) M_7) (fun r_9 M_10 => some (r_9, M_10)) else zz_bd (f_X9_in x3 (1 : Int32) (99 : Int32) M_7) (fun r_11 M_12 => (if r_11 = 0 then zz_bd (f_X9_finds a0 (-1000000001 : Int32) M_12) (fun r_18 M_19 => some (r_18, M_19)) else (if zz_in (3 : Int32) 440 = true then (if (zz_i M_12 130 (zz_n (3 : Int32))) ≤ (9799 : Int32) then zz_bd (f_X9_moveAll a0 (1 : Int32) 132 M_12) (fun _ M_15 => b_X9_takesIn_63  zz_fuel a0 x1 x2 x3 (0 : Int32) M_15) else zz_bd (f_X9_finds a0 (-1000000005 : Int32) M_12) (fun r_16 M_17 => some (r_16, M_17))) else none)))))))
set_option maxRecDepth 100000 in
set_option maxHeartbeats 4000000 in
theorem m_X9_takesIn (l : Launch) (E : zz_E) (a0 : Nat) (x1 : Int32) (x2 : Int32) (x3 : Int32) (h0 : zz_sh a0 = 9) (M : zz_M) : zz_Met (zz_pi E) l yX9_takesIn wsX9_takesIn 4 E [.ref (E.1 + a0), .int x1, .int x2, .int x3] M (f_X9_takesIn a0 x1 x2 x3 M) := by
  refine zz_met (cc := cX9_takesIn) (nL := 5) (ret := (some .int)) (by decide) rfl (Nat.le_of_ble_eq_true rfl) ?_
  intro p e s m below meth c C hr ls hl
  have C : zz_C E RX9 cX9_takesIn 5 wsX9_takesIn p s m [.ref (E.1 + a0), .int x1, .int x2, .int x3].toArray meth c := C
  have hl : lv_has ls 5 [(0, .ref (E.1 + a0)), (1, .int x1), (2, .int x2), (3, .int x3)] := hl
  unfold f_X9_takesIn
  refine zz_aload_n C dX9_takesIn_0 rfl (lv_at hl 0 rfl) ?_
  refine zz_iload_n C dX9_takesIn_1 rfl (lv_at hl 1 rfl) ?_
  refine zz_callVi (As := [.int x1]) (rest := []) C (m_X9_isCandle l E a0 x1 h0 M) (cwV 1 C.1.2.2.2.2 gX9_takesIn_X9_isCandle rfl rfl rfl hdV_X9_isCandle ⟨Nat.le_of_ble_eq_true rfl, Nat.le_of_ble_eq_true rfl⟩) (zz_lt h0 (by decide)) (zz_c9 h0) rfl rfl hl.1 rfl (Nat.le_of_ble_eq_true rfl) dX9_takesIn_2 (fun r_1 M_2 => ?_)
  refine zz_if_eq (tgt := 25) C dX9_takesIn_5 (by decide) (fun c_3 => ?_) (fun c_3 => ?_)
  · refine zz_aload_n C dX9_takesIn_25 rfl (lv_at hl 0 rfl) ?_
    refine zz_ldc (v := -1000000001) C (List.mem_of_getElem? (i := 1) rfl) dX9_takesIn_26 ?_
    refine zz_callVi (As := [.int (-1000000001 : Int32)]) (rest := []) C (m_X9_finds l E a0 (-1000000001 : Int32) h0 M_2) (cwV 1 C.1.2.2.2.2 gX9_takesIn_X9_finds rfl rfl rfl hdV_X9_finds ⟨Nat.le_of_ble_eq_true rfl, Nat.le_of_ble_eq_true rfl⟩) (zz_lt h0 (by decide)) (zz_c9 h0) rfl rfl hl.1 rfl (Nat.le_of_ble_eq_true rfl) dX9_takesIn_28 (fun r_4 M_5 => ?_)
    exact zz_iret C hr dX9_takesIn_31
  · refine zz_iload_n C dX9_takesIn_8 rfl (lv_at hl 2 rfl) ?_
    refine zz_callSi (As := [.int x2]) (rest := []) C (m_X9_isVat l E x2  M_2) (va_cwS 1 C.1.2.2.2.2 gX9_takesIn_X9_isVat rfl rfl rfl hdS_X9_isVat ⟨Nat.le_of_ble_eq_true rfl, Nat.le_of_ble_eq_true rfl⟩) rfl hl.1 rfl (Nat.le_of_ble_eq_true rfl) dX9_takesIn_9 (fun r_6 M_7 => ?_)
    refine zz_if_eq (tgt := 25) C dX9_takesIn_12 (by decide) (fun c_8 => ?_) (fun c_8 => ?_)
    · refine zz_aload_n C dX9_takesIn_25 rfl (lv_at hl 0 rfl) ?_
      refine zz_ldc (v := -1000000001) C (List.mem_of_getElem? (i := 1) rfl) dX9_takesIn_26 ?_
      refine zz_callVi (As := [.int (-1000000001 : Int32)]) (rest := []) C (m_X9_finds l E a0 (-1000000001 : Int32) h0 M_7) (cwV 1 C.1.2.2.2.2 gX9_takesIn_X9_finds rfl rfl rfl hdV_X9_finds ⟨Nat.le_of_ble_eq_true rfl, Nat.le_of_ble_eq_true rfl⟩) (zz_lt h0 (by decide)) (zz_c9 h0) rfl rfl hl.1 rfl (Nat.le_of_ble_eq_true rfl) dX9_takesIn_28 (fun r_9 M_10 => ?_)
      exact zz_iret C hr dX9_takesIn_31
    · refine zz_iload_n C dX9_takesIn_15 rfl (lv_at hl 3 rfl) ?_
      refine zz_iconst (v := 1) C dX9_takesIn_16 (by decide) ?_
      refine zz_bipush (v := 99) C dX9_takesIn_17 (by decide) ?_
      refine zz_callSi (As := [.int x3, .int (1 : Int32), .int (99 : Int32)]) (rest := []) C (m_X9_in l E x3 (1 : Int32) (99 : Int32)  M_7) (va_cwS 3 C.1.2.2.2.2 gX9_takesIn_X9_in rfl rfl rfl hdS_X9_in ⟨Nat.le_of_ble_eq_true rfl, Nat.le_of_ble_eq_true rfl⟩) rfl hl.1 rfl (Nat.le_of_ble_eq_true rfl) dX9_takesIn_19 (fun r_11 M_12 => ?_)
      refine zz_if_ne (tgt := 32) C dX9_takesIn_22 (by decide) (fun c_13 => ?_) (fun c_13 => ?_)
      · refine zz_aload_n C dX9_takesIn_25 rfl (lv_at hl 0 rfl) ?_
        refine zz_ldc (v := -1000000001) C (List.mem_of_getElem? (i := 1) rfl) dX9_takesIn_26 ?_
        refine zz_callVi (As := [.int (-1000000001 : Int32)]) (rest := []) C (m_X9_finds l E a0 (-1000000001 : Int32) h0 M_12) (cwV 1 C.1.2.2.2.2 gX9_takesIn_X9_finds rfl rfl rfl hdV_X9_finds ⟨Nat.le_of_ble_eq_true rfl, Nat.le_of_ble_eq_true rfl⟩) (zz_lt h0 (by decide)) (zz_c9 h0) rfl rfl hl.1 rfl (Nat.le_of_ble_eq_true rfl) dX9_takesIn_28 (fun r_18 M_19 => ?_)
        exact zz_iret C hr dX9_takesIn_31
      · refine zz_aload_n C dX9_takesIn_32 rfl (lv_at hl 0 rfl) ?_
        refine zz_get C (zz_lt h0 (by decide)) (zz_c9 h0) rfl in_X9_takesIn_X9 0 (by decide) (List.mem_of_getElem? (i := 2) rfl) rfl dX9_takesIn_33 ?_
        refine zz_iconst (v := 3) C dX9_takesIn_36 (by decide) ?_
        refine zz_iald C (zz_lt (zz_s9_0 h0) (by decide)) (zz_c13 (zz_s9_0 h0)) dX9_takesIn_37 ?_
        refine zz_sipush (v := 9799) C dX9_takesIn_38 (by decide) ?_
        refine zz_icmp_le (tgt := 51) C dX9_takesIn_41 (by decide) (fun c_14 => ?_) (fun c_14 => ?_)
        · refine zz_aload_n C dX9_takesIn_51 rfl (lv_at hl 0 rfl) ?_
          refine zz_iconst (v := 1) C dX9_takesIn_52 (by decide) ?_
          refine zz_aload_n C dX9_takesIn_53 rfl (lv_at hl 0 rfl) ?_
          refine zz_get C (zz_lt h0 (by decide)) (zz_c9 h0) rfl in_X9_takesIn_X9 2 (by decide) (List.mem_of_getElem? (i := 4) rfl) rfl dX9_takesIn_54 ?_
          refine zz_callVv (As := [.int (1 : Int32), .ref (E.1 + 132)]) (rest := []) C (m_X9_moveAll l E a0 (1 : Int32) 132 h0 (zz_s9_2 h0) M_12) (cwV 2 C.1.2.2.2.2 gX9_takesIn_X9_moveAll rfl rfl rfl hdV_X9_moveAll ⟨Nat.le_of_ble_eq_true rfl, Nat.le_of_ble_eq_true rfl⟩) (zz_lt h0 (by decide)) (zz_c9 h0) rfl rfl hl.1 rfl (Nat.le_of_ble_eq_true rfl) dX9_takesIn_57 (fun _ M_15 => ?_)
          refine zz_iconst (v := 0) C dX9_takesIn_60 (by decide) ?_
          refine zz_istored (lv' := [(4, .int (0 : Int32)), (0, .ref (E.1 + a0)), (1, .int x1), (2, .int x2), (3, .int x3)]) C dX9_takesIn_61 hl (by decide) rfl (fun ls hl => ?_)
          exact wb_X9_takesIn_63 C hr  zz_fuel a0 x1 x2 x3 (0 : Int32) h0 M_15 ls (lv_sub hl [1, 2, 3, 4, 0] rfl)
        · refine zz_aload_n C dX9_takesIn_44 rfl (lv_at hl 0 rfl) ?_
          refine zz_ldc (v := -1000000005) C (List.mem_of_getElem? (i := 3) rfl) dX9_takesIn_45 ?_
          refine zz_callVi (As := [.int (-1000000005 : Int32)]) (rest := []) C (m_X9_finds l E a0 (-1000000005 : Int32) h0 M_12) (cwV 1 C.1.2.2.2.2 gX9_takesIn_X9_finds rfl rfl rfl hdV_X9_finds ⟨Nat.le_of_ble_eq_true rfl, Nat.le_of_ble_eq_true rfl⟩) (zz_lt h0 (by decide)) (zz_c9 h0) rfl rfl hl.1 rfl (Nat.le_of_ble_eq_true rfl) dX9_takesIn_47 (fun r_16 M_17 => ?_)
          exact zz_iret C hr dX9_takesIn_50
-- X9_keeps ('X9', 'keeps', '(I)V')
theorem in_X9_keeps_X9 : ∀ w ∈ u_ws RX9 TX9 20, w ∈ wsX9_keeps := fun _ h => List.mem_cons_of_mem _ (List.mem_append_right _ h)
def b_X9_keeps_30 : Nat → Nat → Int32 → Int32 → zz_M → Option (Unit × zz_M)
  | 0 => fun _ _ _ _ => none
  | n + 1 => fun a0 x1 x2 M => (if (42 : Int32) ≤ x2 then some ((), M) else zz_bd (f_X9_at x1 x2 M) (fun r_5 M_6 => (if zz_in r_5 440 = true then (if zz_in ((16 : Int32) + x2) 58 = true then zz_w (zz_si M_6 133 (zz_n ((16 : Int32) + x2)) (zz_i M_6 130 (zz_n r_5))) (fun M_7 => zz_w (x2 + (1 : Int32)) (fun x2_8 => (b_X9_keeps_30 n) a0 x1 x2_8 M_7)) else none) else none)))
set_option maxRecDepth 100000 in
set_option maxHeartbeats 4000000 in
theorem wb_X9_keeps_30 {p : Program} {l : Launch} {e : Env} {s : State} {m : MethodId} {args : Array Value} {below : List Frame} {meth : Method} {c : Code} {E : zz_E} (C : zz_C E RX9 cX9_keeps 3 wsX9_keeps p s m args meth c) (hr : meth.sig.returnType = none) : ∀ (n : Nat) (a0 : Nat) (x1 : Int32) (x2 : Int32) (ha0 : zz_sh a0 = 9) (M : zz_M) (ls : Array Slot), lv_has ls 3 [(0, .ref (E.1 + a0)), (1, .int x1), (2, .int x2)] → zz_Z E p l e (zz_rm 2) s m args below meth c (zz_Q (zz_pv E) E below args s) (b_X9_keeps_30 n a0 x1 x2 M) M (F0 m 30 ls []) := by
  intro n
  induction n with
  | zero => intro a0 x1 x2 ha0 M ls hl; exact zz_none
  | succ n ih =>
    intro a0 x1 x2 ha0 M ls hl
    rw [b_X9_keeps_30]
    refine zz_iload_n C dX9_keeps_30 rfl (lv_at hl 2 rfl) ?_
    refine zz_bipush (v := 42) C dX9_keeps_31 (by decide) ?_
    refine zz_icmp_ge (tgt := 61) C dX9_keeps_33 (by decide) (fun c_4 => ?_) (fun c_4 => ?_)
    · exact zz_vret C hr dX9_keeps_61
    · refine zz_aload_n C dX9_keeps_36 rfl (lv_at hl 0 rfl) ?_
      refine zz_get C (zz_lt ha0 (by decide)) (zz_c9 ha0) rfl in_X9_keeps_X9 3 (by decide) (List.mem_of_getElem? (i := 1) rfl) rfl dX9_keeps_37 ?_
      refine zz_bipush (v := 16) C dX9_keeps_40 (by decide) ?_
      refine zz_iload_n C dX9_keeps_42 rfl (lv_at hl 2 rfl) ?_
      refine zz_iadd C dX9_keeps_43 ?_
      refine zz_aload_n C dX9_keeps_44 rfl (lv_at hl 0 rfl) ?_
      refine zz_get C (zz_lt ha0 (by decide)) (zz_c9 ha0) rfl in_X9_keeps_X9 0 (by decide) (List.mem_of_getElem? (i := 2) rfl) rfl dX9_keeps_45 ?_
      refine zz_iload_n C dX9_keeps_48 rfl (lv_at hl 1 rfl) ?_
      refine zz_iload_n C dX9_keeps_49 rfl (lv_at hl 2 rfl) ?_
      refine zz_callSi (As := [.int x1, .int x2]) (rest := [.ref (E.1 + 130), .int ((16 : Int32) + x2), .ref (E.1 + 133)]) C (m_X9_at l E x1 x2  M) (va_cwS 2 C.1.2.2.2.2 gX9_keeps_X9_at rfl rfl rfl hdS_X9_at ⟨Nat.le_of_ble_eq_true rfl, Nat.le_of_ble_eq_true rfl⟩) rfl hl.1 rfl (Nat.le_of_ble_eq_true rfl) dX9_keeps_50 (fun r_5 M_6 => ?_)
      refine zz_iald C (zz_lt (zz_s9_0 ha0) (by decide)) (zz_c13 (zz_s9_0 ha0)) dX9_keeps_53 ?_
      refine zz_iast C (zz_lt (zz_s9_3 ha0) (by decide)) (fun _ => zz_c14 (zz_s9_3 ha0)) dX9_keeps_54 (fun M_7 => ?_)
      refine zz_iinc (k9 := 2) (d := 1) C (fun x2_8 => [(2, .int x2_8), (0, .ref (E.1 + a0)), (1, .int x1)]) dX9_keeps_55 hl rfl (by decide) (by decide) (fun _ => rfl) (fun x2_8 ls hl => ?_)
      refine zz_goto (tgt := 30) C dX9_keeps_58 (by decide) ?_
      exact ih a0 x1 x2_8 ha0 M_7 ls (lv_sub hl [1, 2, 0] rfl)
def b_X9_keeps_2 : Nat → Nat → Int32 → Int32 → zz_M → Option (Unit × zz_M)
  | 0 => fun _ _ _ _ => none
  | n + 1 => fun a0 x1 x2 M => (if (16 : Int32) ≤ x2 then b_X9_keeps_30  zz_fuel a0 x1 (0 : Int32) M else (if zz_in ((4 : Int32) + x2) 440 = true then (if zz_in x2 58 = true then zz_w (zz_si M 133 (zz_n x2) (zz_i M 130 (zz_n ((4 : Int32) + x2)))) (fun M_2 => zz_w (x2 + (1 : Int32)) (fun x2_3 => (b_X9_keeps_2 n) a0 x1 x2_3 M_2)) else none) else none))
set_option maxRecDepth 100000 in
set_option maxHeartbeats 4000000 in
theorem wb_X9_keeps_2 {p : Program} {l : Launch} {e : Env} {s : State} {m : MethodId} {args : Array Value} {below : List Frame} {meth : Method} {c : Code} {E : zz_E} (C : zz_C E RX9 cX9_keeps 3 wsX9_keeps p s m args meth c) (hr : meth.sig.returnType = none) : ∀ (n : Nat) (a0 : Nat) (x1 : Int32) (x2 : Int32) (ha0 : zz_sh a0 = 9) (M : zz_M) (ls : Array Slot), lv_has ls 3 [(0, .ref (E.1 + a0)), (1, .int x1), (2, .int x2)] → zz_Z E p l e (zz_rm 2) s m args below meth c (zz_Q (zz_pv E) E below args s) (b_X9_keeps_2 n a0 x1 x2 M) M (F0 m 2 ls []) := by
  intro n
  induction n with
  | zero => intro a0 x1 x2 ha0 M ls hl; exact zz_none
  | succ n ih =>
    intro a0 x1 x2 ha0 M ls hl
    rw [b_X9_keeps_2]
    refine zz_iload_n C dX9_keeps_2 rfl (lv_at hl 2 rfl) ?_
    refine zz_bipush (v := 16) C dX9_keeps_3 (by decide) ?_
    refine zz_icmp_ge (tgt := 28) C dX9_keeps_5 (by decide) (fun c_1 => ?_) (fun c_1 => ?_)
    · refine zz_iconst (v := 0) C dX9_keeps_28 (by decide) ?_
      refine zz_istored_n (lv' := [(2, .int (0 : Int32)), (0, .ref (E.1 + a0)), (1, .int x1)]) C dX9_keeps_29 rfl hl (by decide) rfl (fun ls hl => ?_)
      exact wb_X9_keeps_30 C hr  zz_fuel a0 x1 (0 : Int32) ha0 M ls (lv_sub hl [1, 2, 0] rfl)
    · refine zz_aload_n C dX9_keeps_8 rfl (lv_at hl 0 rfl) ?_
      refine zz_get C (zz_lt ha0 (by decide)) (zz_c9 ha0) rfl in_X9_keeps_X9 3 (by decide) (List.mem_of_getElem? (i := 1) rfl) rfl dX9_keeps_9 ?_
      refine zz_iload_n C dX9_keeps_12 rfl (lv_at hl 2 rfl) ?_
      refine zz_aload_n C dX9_keeps_13 rfl (lv_at hl 0 rfl) ?_
      refine zz_get C (zz_lt ha0 (by decide)) (zz_c9 ha0) rfl in_X9_keeps_X9 0 (by decide) (List.mem_of_getElem? (i := 2) rfl) rfl dX9_keeps_14 ?_
      refine zz_iconst (v := 4) C dX9_keeps_17 (by decide) ?_
      refine zz_iload_n C dX9_keeps_18 rfl (lv_at hl 2 rfl) ?_
      refine zz_iadd C dX9_keeps_19 ?_
      refine zz_iald C (zz_lt (zz_s9_0 ha0) (by decide)) (zz_c13 (zz_s9_0 ha0)) dX9_keeps_20 ?_
      refine zz_iast C (zz_lt (zz_s9_3 ha0) (by decide)) (fun _ => zz_c14 (zz_s9_3 ha0)) dX9_keeps_21 (fun M_2 => ?_)
      refine zz_iinc (k9 := 2) (d := 1) C (fun x2_3 => [(2, .int x2_3), (0, .ref (E.1 + a0)), (1, .int x1)]) dX9_keeps_22 hl rfl (by decide) (by decide) (fun _ => rfl) (fun x2_3 ls hl => ?_)
      refine zz_goto (tgt := 2) C dX9_keeps_25 (by decide) ?_
      exact ih a0 x1 x2_3 ha0 M_2 ls (lv_sub hl [1, 2, 0] rfl)
def f_X9_keeps (a0 : Nat) (x1 : Int32) (M : zz_M) : Option (Unit × zz_M) := b_X9_keeps_2  zz_fuel a0 x1 (0 : Int32) M
set_option maxRecDepth 100000 in
set_option maxHeartbeats 4000000 in
theorem m_X9_keeps (l : Launch) (E : zz_E) (a0 : Nat) (x1 : Int32) (h0 : zz_sh a0 = 9) (M : zz_M) : zz_Met (zz_pv E) l yX9_keeps wsX9_keeps 2 E [.ref (E.1 + a0), .int x1] M (f_X9_keeps a0 x1 M) := by
  refine zz_met (cc := cX9_keeps) (nL := 3) (ret := none) (by decide) rfl (Nat.le_of_ble_eq_true rfl) ?_
  intro p e s m below meth c C hr ls hl
  have C : zz_C E RX9 cX9_keeps 3 wsX9_keeps p s m [.ref (E.1 + a0), .int x1].toArray meth c := C
  have hl : lv_has ls 3 [(0, .ref (E.1 + a0)), (1, .int x1)] := hl
  unfold f_X9_keeps
  refine zz_iconst (v := 0) C dX9_keeps_0 (by decide) ?_
  refine zz_istored_n (lv' := [(2, .int (0 : Int32)), (0, .ref (E.1 + a0)), (1, .int x1)]) C dX9_keeps_1 rfl hl (by decide) rfl (fun ls hl => ?_)
  exact wb_X9_keeps_2 C hr  zz_fuel a0 x1 (0 : Int32) h0 M ls (lv_sub hl [1, 2, 0] rfl)
-- X9_putsBack ('X9', 'putsBack', '(I)V')
theorem in_X9_putsBack_X9 : ∀ w ∈ u_ws RX9 TX9 20, w ∈ wsX9_putsBack := fun _ h => List.mem_cons_of_mem _ (List.mem_append_right _ h)
def b_X9_putsBack_30 : Nat → Nat → Int32 → Int32 → zz_M → Option (Unit × zz_M)
  | 0 => fun _ _ _ _ => none
  | n + 1 => fun a0 x1 x2 M => (if (42 : Int32) ≤ x2 then some ((), M) else zz_bd (f_X9_at x1 x2 M) (fun r_5 M_6 => (if zz_in ((16 : Int32) + x2) 58 = true then (if zz_in r_5 440 = true then zz_w (zz_si M_6 130 (zz_n r_5) (zz_i M_6 133 (zz_n ((16 : Int32) + x2)))) (fun M_7 => zz_w (x2 + (1 : Int32)) (fun x2_8 => (b_X9_putsBack_30 n) a0 x1 x2_8 M_7)) else none) else none)))
set_option maxRecDepth 100000 in
set_option maxHeartbeats 4000000 in
theorem wb_X9_putsBack_30 {p : Program} {l : Launch} {e : Env} {s : State} {m : MethodId} {args : Array Value} {below : List Frame} {meth : Method} {c : Code} {E : zz_E} (C : zz_C E RX9 cX9_putsBack 3 wsX9_putsBack p s m args meth c) (hr : meth.sig.returnType = none) : ∀ (n : Nat) (a0 : Nat) (x1 : Int32) (x2 : Int32) (ha0 : zz_sh a0 = 9) (M : zz_M) (ls : Array Slot), lv_has ls 3 [(0, .ref (E.1 + a0)), (1, .int x1), (2, .int x2)] → zz_Z E p l e (zz_rm 2) s m args below meth c (zz_Q (zz_pv E) E below args s) (b_X9_putsBack_30 n a0 x1 x2 M) M (F0 m 30 ls []) := by
  intro n
  induction n with
  | zero => intro a0 x1 x2 ha0 M ls hl; exact zz_none
  | succ n ih =>
    intro a0 x1 x2 ha0 M ls hl
    rw [b_X9_putsBack_30]
    refine zz_iload_n C dX9_putsBack_30 rfl (lv_at hl 2 rfl) ?_
    refine zz_bipush (v := 42) C dX9_putsBack_31 (by decide) ?_
    refine zz_icmp_ge (tgt := 61) C dX9_putsBack_33 (by decide) (fun c_4 => ?_) (fun c_4 => ?_)
    · exact zz_vret C hr dX9_putsBack_61
    · refine zz_aload_n C dX9_putsBack_36 rfl (lv_at hl 0 rfl) ?_
      refine zz_get C (zz_lt ha0 (by decide)) (zz_c9 ha0) rfl in_X9_putsBack_X9 0 (by decide) (List.mem_of_getElem? (i := 1) rfl) rfl dX9_putsBack_37 ?_
      refine zz_iload_n C dX9_putsBack_40 rfl (lv_at hl 1 rfl) ?_
      refine zz_iload_n C dX9_putsBack_41 rfl (lv_at hl 2 rfl) ?_
      refine zz_callSi (As := [.int x1, .int x2]) (rest := [.ref (E.1 + 130)]) C (m_X9_at l E x1 x2  M) (va_cwS 2 C.1.2.2.2.2 gX9_putsBack_X9_at rfl rfl rfl hdS_X9_at ⟨Nat.le_of_ble_eq_true rfl, Nat.le_of_ble_eq_true rfl⟩) rfl hl.1 rfl (Nat.le_of_ble_eq_true rfl) dX9_putsBack_42 (fun r_5 M_6 => ?_)
      refine zz_aload_n C dX9_putsBack_45 rfl (lv_at hl 0 rfl) ?_
      refine zz_get C (zz_lt ha0 (by decide)) (zz_c9 ha0) rfl in_X9_putsBack_X9 3 (by decide) (List.mem_of_getElem? (i := 2) rfl) rfl dX9_putsBack_46 ?_
      refine zz_bipush (v := 16) C dX9_putsBack_49 (by decide) ?_
      refine zz_iload_n C dX9_putsBack_51 rfl (lv_at hl 2 rfl) ?_
      refine zz_iadd C dX9_putsBack_52 ?_
      refine zz_iald C (zz_lt (zz_s9_3 ha0) (by decide)) (zz_c14 (zz_s9_3 ha0)) dX9_putsBack_53 ?_
      refine zz_iast C (zz_lt (zz_s9_0 ha0) (by decide)) (fun _ => zz_c13 (zz_s9_0 ha0)) dX9_putsBack_54 (fun M_7 => ?_)
      refine zz_iinc (k9 := 2) (d := 1) C (fun x2_8 => [(2, .int x2_8), (0, .ref (E.1 + a0)), (1, .int x1)]) dX9_putsBack_55 hl rfl (by decide) (by decide) (fun _ => rfl) (fun x2_8 ls hl => ?_)
      refine zz_goto (tgt := 30) C dX9_putsBack_58 (by decide) ?_
      exact ih a0 x1 x2_8 ha0 M_7 ls (lv_sub hl [1, 2, 0] rfl)
def b_X9_putsBack_2 : Nat → Nat → Int32 → Int32 → zz_M → Option (Unit × zz_M)
  | 0 => fun _ _ _ _ => none
  | n + 1 => fun a0 x1 x2 M => (if (16 : Int32) ≤ x2 then b_X9_putsBack_30  zz_fuel a0 x1 (0 : Int32) M else (if zz_in x2 58 = true then (if zz_in ((4 : Int32) + x2) 440 = true then zz_w (zz_si M 130 (zz_n ((4 : Int32) + x2)) (zz_i M 133 (zz_n x2))) (fun M_2 => zz_w (x2 + (1 : Int32)) (fun x2_3 => (b_X9_putsBack_2 n) a0 x1 x2_3 M_2)) else none) else none))
set_option maxRecDepth 100000 in
set_option maxHeartbeats 4000000 in
theorem wb_X9_putsBack_2 {p : Program} {l : Launch} {e : Env} {s : State} {m : MethodId} {args : Array Value} {below : List Frame} {meth : Method} {c : Code} {E : zz_E} (C : zz_C E RX9 cX9_putsBack 3 wsX9_putsBack p s m args meth c) (hr : meth.sig.returnType = none) : ∀ (n : Nat) (a0 : Nat) (x1 : Int32) (x2 : Int32) (ha0 : zz_sh a0 = 9) (M : zz_M) (ls : Array Slot), lv_has ls 3 [(0, .ref (E.1 + a0)), (1, .int x1), (2, .int x2)] → zz_Z E p l e (zz_rm 2) s m args below meth c (zz_Q (zz_pv E) E below args s) (b_X9_putsBack_2 n a0 x1 x2 M) M (F0 m 2 ls []) := by
  intro n
  induction n with
  | zero => intro a0 x1 x2 ha0 M ls hl; exact zz_none
  | succ n ih =>
    intro a0 x1 x2 ha0 M ls hl
    rw [b_X9_putsBack_2]
    refine zz_iload_n C dX9_putsBack_2 rfl (lv_at hl 2 rfl) ?_
    refine zz_bipush (v := 16) C dX9_putsBack_3 (by decide) ?_
    refine zz_icmp_ge (tgt := 28) C dX9_putsBack_5 (by decide) (fun c_1 => ?_) (fun c_1 => ?_)
    · refine zz_iconst (v := 0) C dX9_putsBack_28 (by decide) ?_
      refine zz_istored_n (lv' := [(2, .int (0 : Int32)), (0, .ref (E.1 + a0)), (1, .int x1)]) C dX9_putsBack_29 rfl hl (by decide) rfl (fun ls hl => ?_)
      exact wb_X9_putsBack_30 C hr  zz_fuel a0 x1 (0 : Int32) ha0 M ls (lv_sub hl [1, 2, 0] rfl)
    · refine zz_aload_n C dX9_putsBack_8 rfl (lv_at hl 0 rfl) ?_
      refine zz_get C (zz_lt ha0 (by decide)) (zz_c9 ha0) rfl in_X9_putsBack_X9 0 (by decide) (List.mem_of_getElem? (i := 1) rfl) rfl dX9_putsBack_9 ?_
      refine zz_iconst (v := 4) C dX9_putsBack_12 (by decide) ?_
      refine zz_iload_n C dX9_putsBack_13 rfl (lv_at hl 2 rfl) ?_
      refine zz_iadd C dX9_putsBack_14 ?_
      refine zz_aload_n C dX9_putsBack_15 rfl (lv_at hl 0 rfl) ?_
      refine zz_get C (zz_lt ha0 (by decide)) (zz_c9 ha0) rfl in_X9_putsBack_X9 3 (by decide) (List.mem_of_getElem? (i := 2) rfl) rfl dX9_putsBack_16 ?_
      refine zz_iload_n C dX9_putsBack_19 rfl (lv_at hl 2 rfl) ?_
      refine zz_iald C (zz_lt (zz_s9_3 ha0) (by decide)) (zz_c14 (zz_s9_3 ha0)) dX9_putsBack_20 ?_
      refine zz_iast C (zz_lt (zz_s9_0 ha0) (by decide)) (fun _ => zz_c13 (zz_s9_0 ha0)) dX9_putsBack_21 (fun M_2 => ?_)
      refine zz_iinc (k9 := 2) (d := 1) C (fun x2_3 => [(2, .int x2_3), (0, .ref (E.1 + a0)), (1, .int x1)]) dX9_putsBack_22 hl rfl (by decide) (by decide) (fun _ => rfl) (fun x2_3 ls hl => ?_)
      refine zz_goto (tgt := 2) C dX9_putsBack_25 (by decide) ?_
      exact ih a0 x1 x2_3 ha0 M_2 ls (lv_sub hl [1, 2, 0] rfl)
def f_X9_putsBack (a0 : Nat) (x1 : Int32) (M : zz_M) : Option (Unit × zz_M) := b_X9_putsBack_2  zz_fuel a0 x1 (0 : Int32) M
set_option maxRecDepth 100000 in
set_option maxHeartbeats 4000000 in
theorem m_X9_putsBack (l : Launch) (E : zz_E) (a0 : Nat) (x1 : Int32) (h0 : zz_sh a0 = 9) (M : zz_M) : zz_Met (zz_pv E) l yX9_putsBack wsX9_putsBack 2 E [.ref (E.1 + a0), .int x1] M (f_X9_putsBack a0 x1 M) := by
  refine zz_met (cc := cX9_putsBack) (nL := 3) (ret := none) (by decide) rfl (Nat.le_of_ble_eq_true rfl) ?_
  intro p e s m below meth c C hr ls hl
  have C : zz_C E RX9 cX9_putsBack 3 wsX9_putsBack p s m [.ref (E.1 + a0), .int x1].toArray meth c := C
  have hl : lv_has ls 3 [(0, .ref (E.1 + a0)), (1, .int x1)] := hl
  unfold f_X9_putsBack
  refine zz_iconst (v := 0) C dX9_putsBack_0 (by decide) ?_
  refine zz_istored_n (lv' := [(2, .int (0 : Int32)), (0, .ref (E.1 + a0)), (1, .int x1)]) C dX9_putsBack_1 rfl hl (by decide) rfl (fun ls hl => ?_)
  exact wb_X9_putsBack_2 C hr  zz_fuel a0 x1 (0 : Int32) h0 M ls (lv_sub hl [1, 2, 0] rfl)
-- X9_burnsBehind ('X9', 'burnsBehind', '(III)I')
def b_X9_burnsBehind_3 : Nat → Nat → Int32 → Int32 → Int32 → Int32 → zz_M → Option (Int32 × zz_M)
  | 0 => fun _ _ _ _ _ _ => none
  | n + 1 => fun a0 x1 x2 x3 x4 M => (if x3 ≤ x4 then zz_bd (f_X9_burnsOf a0 x1 M) (fun r_2 M_3 => some (r_2, M_3)) else zz_bd (f_X9_dips a0 x1 x2 M) (fun _ M_4 => zz_w (x4 + (1 : Int32)) (fun x4_5 => (b_X9_burnsBehind_3 n) a0 x1 x2 x3 x4_5 M_4)))
set_option maxRecDepth 100000 in
set_option maxHeartbeats 4000000 in
theorem wb_X9_burnsBehind_3 {p : Program} {l : Launch} {e : Env} {s : State} {m : MethodId} {args : Array Value} {below : List Frame} {meth : Method} {c : Code} {E : zz_E} (C : zz_C E RX9 cX9_burnsBehind 5 wsX9_burnsBehind p s m args meth c) (hr : meth.sig.returnType = (some .int)) : ∀ (n : Nat) (a0 : Nat) (x1 : Int32) (x2 : Int32) (x3 : Int32) (x4 : Int32) (ha0 : zz_sh a0 = 9) (M : zz_M) (ls : Array Slot), lv_has ls 5 [(0, .ref (E.1 + a0)), (1, .int x1), (2, .int x2), (3, .int x3), (4, .int x4)] → zz_Z E p l e (zz_rm 5) s m args below meth c (zz_Q (zz_pi E) E below args s) (b_X9_burnsBehind_3 n a0 x1 x2 x3 x4 M) M (F0 m 3 ls []) := by
  intro n
  induction n with
  | zero => intro a0 x1 x2 x3 x4 ha0 M ls hl; exact zz_none
  | succ n ih =>
    intro a0 x1 x2 x3 x4 ha0 M ls hl
    rw [b_X9_burnsBehind_3]
    refine zz_iload C dX9_burnsBehind_3 (lv_at hl 4 rfl) ?_
    refine zz_iload_n C dX9_burnsBehind_5 rfl (lv_at hl 3 rfl) ?_
    refine zz_icmp_ge (tgt := 21) C dX9_burnsBehind_6 (by decide) (fun c_1 => ?_) (fun c_1 => ?_)
    · refine zz_aload_n C dX9_burnsBehind_21 rfl (lv_at hl 0 rfl) ?_
      refine zz_iload_n C dX9_burnsBehind_22 rfl (lv_at hl 1 rfl) ?_
      refine zz_callVi (As := [.int x1]) (rest := []) C (m_X9_burnsOf l E a0 x1 ha0 M) (cwV 1 C.1.2.2.2.2 gX9_burnsBehind_X9_burnsOf rfl rfl rfl hdV_X9_burnsOf ⟨Nat.le_of_ble_eq_true rfl, Nat.le_of_ble_eq_true rfl⟩) (zz_lt ha0 (by decide)) (zz_c9 ha0) rfl rfl hl.1 rfl (Nat.le_of_ble_eq_true rfl) dX9_burnsBehind_23 (fun r_2 M_3 => ?_)
      exact zz_iret C hr dX9_burnsBehind_26
    · refine zz_aload_n C dX9_burnsBehind_9 rfl (lv_at hl 0 rfl) ?_
      refine zz_iload_n C dX9_burnsBehind_10 rfl (lv_at hl 1 rfl) ?_
      refine zz_iload_n C dX9_burnsBehind_11 rfl (lv_at hl 2 rfl) ?_
      refine zz_callVv (As := [.int x1, .int x2]) (rest := []) C (m_X9_dips l E a0 x1 x2 ha0 M) (cwV 2 C.1.2.2.2.2 gX9_burnsBehind_X9_dips rfl rfl rfl hdV_X9_dips ⟨Nat.le_of_ble_eq_true rfl, Nat.le_of_ble_eq_true rfl⟩) (zz_lt ha0 (by decide)) (zz_c9 ha0) rfl rfl hl.1 rfl (Nat.le_of_ble_eq_true rfl) dX9_burnsBehind_12 (fun _ M_4 => ?_)
      refine zz_iinc (k9 := 4) (d := 1) C (fun x4_5 => [(4, .int x4_5), (0, .ref (E.1 + a0)), (1, .int x1), (2, .int x2), (3, .int x3)]) dX9_burnsBehind_15 hl rfl (by decide) (by decide) (fun _ => rfl) (fun x4_5 ls hl => ?_)
      refine zz_goto (tgt := 3) C dX9_burnsBehind_18 (by decide) ?_
      exact ih a0 x1 x2 x3 x4_5 ha0 M_4 ls (lv_sub hl [1, 2, 3, 4, 0] rfl)
def f_X9_burnsBehind (a0 : Nat) (x1 : Int32) (x2 : Int32) (x3 : Int32) (M : zz_M) : Option (Int32 × zz_M) := b_X9_burnsBehind_3  zz_fuel a0 x1 x2 x3 (0 : Int32) M
set_option maxRecDepth 100000 in
set_option maxHeartbeats 4000000 in
theorem m_X9_burnsBehind (l : Launch) (E : zz_E) (a0 : Nat) (x1 : Int32) (x2 : Int32) (x3 : Int32) (h0 : zz_sh a0 = 9) (M : zz_M) : zz_Met (zz_pi E) l yX9_burnsBehind wsX9_burnsBehind 5 E [.ref (E.1 + a0), .int x1, .int x2, .int x3] M (f_X9_burnsBehind a0 x1 x2 x3 M) := by
  refine zz_met (cc := cX9_burnsBehind) (nL := 5) (ret := (some .int)) (by decide) rfl (Nat.le_of_ble_eq_true rfl) ?_
  intro p e s m below meth c C hr ls hl
  have C : zz_C E RX9 cX9_burnsBehind 5 wsX9_burnsBehind p s m [.ref (E.1 + a0), .int x1, .int x2, .int x3].toArray meth c := C
  have hl : lv_has ls 5 [(0, .ref (E.1 + a0)), (1, .int x1), (2, .int x2), (3, .int x3)] := hl
  unfold f_X9_burnsBehind
  refine zz_iconst (v := 0) C dX9_burnsBehind_0 (by decide) ?_
  refine zz_istored (lv' := [(4, .int (0 : Int32)), (0, .ref (E.1 + a0)), (1, .int x1), (2, .int x2), (3, .int x3)]) C dX9_burnsBehind_1 hl (by decide) rfl (fun ls hl => ?_)
  exact wb_X9_burnsBehind_3 C hr  zz_fuel a0 x1 x2 x3 (0 : Int32) h0 M ls (lv_sub hl [1, 2, 3, 4, 0] rfl)
-- X9_burns ('X9', 'burns', '(III)I')
theorem hdV_X9_burnsBehind : yX9_burnsBehind.cls = RX9 ∧ yX9_burnsBehind.cls ≠ "java/lang/invoke/MethodHandle" ∧ yX9_burnsBehind.cls ≠ "java/lang/invoke/VarHandle" ∧ (parseMethodDescriptor yX9_burnsBehind.desc).map (fun d => d.parameters.length) = some 3 := by decide +kernel
theorem hdV_X9_keeps : yX9_keeps.cls = RX9 ∧ yX9_keeps.cls ≠ "java/lang/invoke/MethodHandle" ∧ yX9_keeps.cls ≠ "java/lang/invoke/VarHandle" ∧ (parseMethodDescriptor yX9_keeps.desc).map (fun d => d.parameters.length) = some 1 := by decide +kernel
theorem hdV_X9_putsBack : yX9_putsBack.cls = RX9 ∧ yX9_putsBack.cls ≠ "java/lang/invoke/MethodHandle" ∧ yX9_putsBack.cls ≠ "java/lang/invoke/VarHandle" ∧ (parseMethodDescriptor yX9_putsBack.desc).map (fun d => d.parameters.length) = some 1 := by decide +kernel
def f_X9_burns (a0 : Nat) (x1 : Int32) (x2 : Int32) (x3 : Int32) (M : zz_M) : Option (Int32 × zz_M) := zz_bd (f_X9_isCandle a0 x1 M) (fun r_1 M_2 => (if r_1 = 0 then zz_bd (f_X9_finds a0 (-1000000001 : Int32) M_2) (fun r_4 M_5 => some (r_4, M_5)) else zz_bd (f_X9_isVat x2 M_2) (fun r_6 M_7 => (if r_6 = 0 then zz_bd (f_X9_finds a0 (-1000000001 : Int32) M_7) (fun r_9 M_10 => some (r_9, M_10)) else zz_bd (f_X9_in x3 (0 : Int32) (40 : Int32) M_7) (fun r_11 M_12 => (if r_11 = 0 then zz_bd (f_X9_finds a0 (-1000000001 : Int32) M_12) (fun r_18 M_19 => some (r_18, M_19)) else zz_bd (f_X9_keeps a0 x1 M_12) (fun _ M_14 => zz_bd (f_X9_burnsBehind a0 x1 x2 x3 M_14) (fun r_15 M_16 => zz_bd (f_X9_putsBack a0 x1 M_16) (fun _ M_17 => some (r_15, M_17))))))))))
set_option maxRecDepth 100000 in
set_option maxHeartbeats 4000000 in
theorem m_X9_burns (l : Launch) (E : zz_E) (a0 : Nat) (x1 : Int32) (x2 : Int32) (x3 : Int32) (h0 : zz_sh a0 = 9) (M : zz_M) : zz_Met (zz_pi E) l yX9_burns wsX9_burns 6 E [.ref (E.1 + a0), .int x1, .int x2, .int x3] M (f_X9_burns a0 x1 x2 x3 M) := by
  refine zz_met (cc := cX9_burns) (nL := 5) (ret := (some .int)) (by decide) rfl (Nat.le_of_ble_eq_true rfl) ?_
  intro p e s m below meth c C hr ls hl
  have C : zz_C E RX9 cX9_burns 5 wsX9_burns p s m [.ref (E.1 + a0), .int x1, .int x2, .int x3].toArray meth c := C
  have hl : lv_has ls 5 [(0, .ref (E.1 + a0)), (1, .int x1), (2, .int x2), (3, .int x3)] := hl
  unfold f_X9_burns
  refine zz_aload_n C dX9_burns_0 rfl (lv_at hl 0 rfl) ?_
  refine zz_iload_n C dX9_burns_1 rfl (lv_at hl 1 rfl) ?_
  refine zz_callVi (As := [.int x1]) (rest := []) C (m_X9_isCandle l E a0 x1 h0 M) (cwV 1 C.1.2.2.2.2 gX9_burns_X9_isCandle rfl rfl rfl hdV_X9_isCandle ⟨Nat.le_of_ble_eq_true rfl, Nat.le_of_ble_eq_true rfl⟩) (zz_lt h0 (by decide)) (zz_c9 h0) rfl rfl hl.1 rfl (Nat.le_of_ble_eq_true rfl) dX9_burns_2 (fun r_1 M_2 => ?_)
  refine zz_if_eq (tgt := 25) C dX9_burns_5 (by decide) (fun c_3 => ?_) (fun c_3 => ?_)
  · refine zz_aload_n C dX9_burns_25 rfl (lv_at hl 0 rfl) ?_
    refine zz_ldc (v := -1000000001) C (List.mem_of_getElem? (i := 1) rfl) dX9_burns_26 ?_
    refine zz_callVi (As := [.int (-1000000001 : Int32)]) (rest := []) C (m_X9_finds l E a0 (-1000000001 : Int32) h0 M_2) (cwV 1 C.1.2.2.2.2 gX9_burns_X9_finds rfl rfl rfl hdV_X9_finds ⟨Nat.le_of_ble_eq_true rfl, Nat.le_of_ble_eq_true rfl⟩) (zz_lt h0 (by decide)) (zz_c9 h0) rfl rfl hl.1 rfl (Nat.le_of_ble_eq_true rfl) dX9_burns_28 (fun r_4 M_5 => ?_)
    exact zz_iret C hr dX9_burns_31
  · refine zz_iload_n C dX9_burns_8 rfl (lv_at hl 2 rfl) ?_
    refine zz_callSi (As := [.int x2]) (rest := []) C (m_X9_isVat l E x2  M_2) (va_cwS 1 C.1.2.2.2.2 gX9_burns_X9_isVat rfl rfl rfl hdS_X9_isVat ⟨Nat.le_of_ble_eq_true rfl, Nat.le_of_ble_eq_true rfl⟩) rfl hl.1 rfl (Nat.le_of_ble_eq_true rfl) dX9_burns_9 (fun r_6 M_7 => ?_)
    refine zz_if_eq (tgt := 25) C dX9_burns_12 (by decide) (fun c_8 => ?_) (fun c_8 => ?_)
    · refine zz_aload_n C dX9_burns_25 rfl (lv_at hl 0 rfl) ?_
      refine zz_ldc (v := -1000000001) C (List.mem_of_getElem? (i := 1) rfl) dX9_burns_26 ?_
      refine zz_callVi (As := [.int (-1000000001 : Int32)]) (rest := []) C (m_X9_finds l E a0 (-1000000001 : Int32) h0 M_7) (cwV 1 C.1.2.2.2.2 gX9_burns_X9_finds rfl rfl rfl hdV_X9_finds ⟨Nat.le_of_ble_eq_true rfl, Nat.le_of_ble_eq_true rfl⟩) (zz_lt h0 (by decide)) (zz_c9 h0) rfl rfl hl.1 rfl (Nat.le_of_ble_eq_true rfl) dX9_burns_28 (fun r_9 M_10 => ?_)
      exact zz_iret C hr dX9_burns_31
    · refine zz_iload_n C dX9_burns_15 rfl (lv_at hl 3 rfl) ?_
      refine zz_iconst (v := 0) C dX9_burns_16 (by decide) ?_
      refine zz_bipush (v := 40) C dX9_burns_17 (by decide) ?_
      refine zz_callSi (As := [.int x3, .int (0 : Int32), .int (40 : Int32)]) (rest := []) C (m_X9_in l E x3 (0 : Int32) (40 : Int32)  M_7) (va_cwS 3 C.1.2.2.2.2 gX9_burns_X9_in rfl rfl rfl hdS_X9_in ⟨Nat.le_of_ble_eq_true rfl, Nat.le_of_ble_eq_true rfl⟩) rfl hl.1 rfl (Nat.le_of_ble_eq_true rfl) dX9_burns_19 (fun r_11 M_12 => ?_)
      refine zz_if_ne (tgt := 32) C dX9_burns_22 (by decide) (fun c_13 => ?_) (fun c_13 => ?_)
      · refine zz_aload_n C dX9_burns_25 rfl (lv_at hl 0 rfl) ?_
        refine zz_ldc (v := -1000000001) C (List.mem_of_getElem? (i := 1) rfl) dX9_burns_26 ?_
        refine zz_callVi (As := [.int (-1000000001 : Int32)]) (rest := []) C (m_X9_finds l E a0 (-1000000001 : Int32) h0 M_12) (cwV 1 C.1.2.2.2.2 gX9_burns_X9_finds rfl rfl rfl hdV_X9_finds ⟨Nat.le_of_ble_eq_true rfl, Nat.le_of_ble_eq_true rfl⟩) (zz_lt h0 (by decide)) (zz_c9 h0) rfl rfl hl.1 rfl (Nat.le_of_ble_eq_true rfl) dX9_burns_28 (fun r_18 M_19 => ?_)
        exact zz_iret C hr dX9_burns_31
      · refine zz_aload_n C dX9_burns_32 rfl (lv_at hl 0 rfl) ?_
        refine zz_iload_n C dX9_burns_33 rfl (lv_at hl 1 rfl) ?_
        refine zz_callVv (As := [.int x1]) (rest := []) C (m_X9_keeps l E a0 x1 h0 M_12) (cwV 1 C.1.2.2.2.2 gX9_burns_X9_keeps rfl rfl rfl hdV_X9_keeps ⟨Nat.le_of_ble_eq_true rfl, Nat.le_of_ble_eq_true rfl⟩) (zz_lt h0 (by decide)) (zz_c9 h0) rfl rfl hl.1 rfl (Nat.le_of_ble_eq_true rfl) dX9_burns_34 (fun _ M_14 => ?_)
        refine zz_aload_n C dX9_burns_37 rfl (lv_at hl 0 rfl) ?_
        refine zz_iload_n C dX9_burns_38 rfl (lv_at hl 1 rfl) ?_
        refine zz_iload_n C dX9_burns_39 rfl (lv_at hl 2 rfl) ?_
        refine zz_iload_n C dX9_burns_40 rfl (lv_at hl 3 rfl) ?_
        refine zz_callVi (As := [.int x1, .int x2, .int x3]) (rest := []) C (m_X9_burnsBehind l E a0 x1 x2 x3 h0 M_14) (cwV 3 C.1.2.2.2.2 gX9_burns_X9_burnsBehind rfl rfl rfl hdV_X9_burnsBehind ⟨Nat.le_of_ble_eq_true rfl, Nat.le_of_ble_eq_true rfl⟩) (zz_lt h0 (by decide)) (zz_c9 h0) rfl rfl hl.1 rfl (Nat.le_of_ble_eq_true rfl) dX9_burns_41 (fun r_15 M_16 => ?_)
        refine zz_istored (lv' := [(4, .int r_15), (0, .ref (E.1 + a0)), (1, .int x1), (2, .int x2), (3, .int x3)]) C dX9_burns_44 hl (by decide) rfl (fun ls hl => ?_)
        refine zz_aload_n C dX9_burns_46 rfl (lv_at hl 1 rfl) ?_
        refine zz_iload_n C dX9_burns_47 rfl (lv_at hl 2 rfl) ?_
        refine zz_callVv (As := [.int x1]) (rest := []) C (m_X9_putsBack l E a0 x1 h0 M_16) (cwV 1 C.1.2.2.2.2 gX9_burns_X9_putsBack rfl rfl rfl hdV_X9_putsBack ⟨Nat.le_of_ble_eq_true rfl, Nat.le_of_ble_eq_true rfl⟩) (zz_lt h0 (by decide)) (zz_c9 h0) rfl rfl hl.1 rfl (Nat.le_of_ble_eq_true rfl) dX9_burns_48 (fun _ M_17 => ?_)
        refine zz_iload C dX9_burns_51 (lv_at hl 0 rfl) ?_
        exact zz_iret C hr dX9_burns_53
-- X9_dipRow ('X9', 'dipRow', '(III)V')
def b_X9_dipRow_5 : Nat → Nat → Int32 → Int32 → Int32 → zz_M → Option (Unit × zz_M)
  | 0 => fun _ _ _ _ _ => none
  | n + 1 => fun a0 x1 x2 x4 M => (if x4 < 0 then some ((), M) else zz_bd (f_X9_dips a0 x1 ((x2 >>> (((2 : Int32) * x4) &&& (31 : Int32))) &&& (3 : Int32)) M) (fun _ M_3 => zz_w (x4 + (-1 : Int32)) (fun x4_4 => (b_X9_dipRow_5 n) a0 x1 x2 x4_4 M_3)))
set_option maxRecDepth 100000 in
set_option maxHeartbeats 4000000 in
theorem wb_X9_dipRow_5 {p : Program} {l : Launch} {e : Env} {s : State} {m : MethodId} {args : Array Value} {below : List Frame} {meth : Method} {c : Code} {E : zz_E} (C : zz_C E RX9 cX9_dipRow 5 wsX9_dipRow p s m args meth c) (hr : meth.sig.returnType = none) : ∀ (n : Nat) (a0 : Nat) (x1 : Int32) (x2 : Int32) (x4 : Int32) (ha0 : zz_sh a0 = 9) (M : zz_M) (ls : Array Slot), lv_has ls 5 [(0, .ref (E.1 + a0)), (1, .int x1), (2, .int x2), (4, .int x4)] → zz_Z E p l e (zz_rm 5) s m args below meth c (zz_Q (zz_pv E) E below args s) (b_X9_dipRow_5 n a0 x1 x2 x4 M) M (F0 m 5 ls []) := by
  intro n
  induction n with
  | zero => intro a0 x1 x2 x4 ha0 M ls hl; exact zz_none
  | succ n ih =>
    intro a0 x1 x2 x4 ha0 M ls hl
    rw [b_X9_dipRow_5]
    refine zz_iload C dX9_dipRow_5 (lv_at hl 3 rfl) ?_
    refine zz_if_lt (tgt := 29) C dX9_dipRow_7 (by decide) (fun c_2 => ?_) (fun c_2 => ?_)
    · exact zz_vret C hr dX9_dipRow_29
    · refine zz_aload_n C dX9_dipRow_10 rfl (lv_at hl 0 rfl) ?_
      refine zz_iload_n C dX9_dipRow_11 rfl (lv_at hl 1 rfl) ?_
      refine zz_iload_n C dX9_dipRow_12 rfl (lv_at hl 2 rfl) ?_
      refine zz_iconst (v := 2) C dX9_dipRow_13 (by decide) ?_
      refine zz_iload C dX9_dipRow_14 (lv_at hl 3 rfl) ?_
      refine zz_imul C dX9_dipRow_16 ?_
      refine zz_ishr C dX9_dipRow_17 ?_
      refine zz_iconst (v := 3) C dX9_dipRow_18 (by decide) ?_
      refine zz_iand C dX9_dipRow_19 ?_
      refine zz_callVv (As := [.int x1, .int ((x2 >>> (((2 : Int32) * x4) &&& (31 : Int32))) &&& (3 : Int32))]) (rest := []) C (m_X9_dips l E a0 x1 ((x2 >>> (((2 : Int32) * x4) &&& (31 : Int32))) &&& (3 : Int32)) ha0 M) (cwV 2 C.1.2.2.2.2 gX9_dipRow_X9_dips rfl rfl rfl hdV_X9_dips ⟨Nat.le_of_ble_eq_true rfl, Nat.le_of_ble_eq_true rfl⟩) (zz_lt ha0 (by decide)) (zz_c9 ha0) rfl rfl hl.1 rfl (Nat.le_of_ble_eq_true rfl) dX9_dipRow_20 (fun _ M_3 => ?_)
      refine zz_iinc (k9 := 3) (d := -1) C (fun x4_4 => [(4, .int x4_4), (0, .ref (E.1 + a0)), (1, .int x1), (2, .int x2)]) dX9_dipRow_23 hl rfl (by decide) (by decide) (fun _ => rfl) (fun x4_4 ls hl => ?_)
      refine zz_goto (tgt := 5) C dX9_dipRow_26 (by decide) ?_
      exact ih a0 x1 x2 x4_4 ha0 M_3 ls (lv_sub hl [1, 2, 3, 0] rfl)
def f_X9_dipRow (a0 : Nat) (x1 : Int32) (x2 : Int32) (x3 : Int32) (M : zz_M) : Option (Unit × zz_M) := zz_w (x3 - (1 : Int32)) (fun x4_1 => b_X9_dipRow_5  zz_fuel a0 x1 x2 x4_1 M)
set_option maxRecDepth 100000 in
set_option maxHeartbeats 4000000 in
theorem m_X9_dipRow (l : Launch) (E : zz_E) (a0 : Nat) (x1 : Int32) (x2 : Int32) (x3 : Int32) (h0 : zz_sh a0 = 9) (M : zz_M) : zz_Met (zz_pv E) l yX9_dipRow wsX9_dipRow 5 E [.ref (E.1 + a0), .int x1, .int x2, .int x3] M (f_X9_dipRow a0 x1 x2 x3 M) := by
  refine zz_met (cc := cX9_dipRow) (nL := 5) (ret := none) (by decide) rfl (Nat.le_of_ble_eq_true rfl) ?_
  intro p e s m below meth c C hr ls hl
  have C : zz_C E RX9 cX9_dipRow 5 wsX9_dipRow p s m [.ref (E.1 + a0), .int x1, .int x2, .int x3].toArray meth c := C
  have hl : lv_has ls 5 [(0, .ref (E.1 + a0)), (1, .int x1), (2, .int x2), (3, .int x3)] := hl
  unfold f_X9_dipRow
  refine zz_iload_n C dX9_dipRow_0 rfl (lv_at hl 3 rfl) ?_
  refine zz_iconst (v := 1) C dX9_dipRow_1 (by decide) ?_
  refine zz_isub C dX9_dipRow_2 ?_
  refine zz_istore C (fun x4_1 => [(4, .int x4_1), (0, .ref (E.1 + a0)), (1, .int x1), (2, .int x2), (3, .int x3)]) dX9_dipRow_3 hl (by decide) (fun _ => rfl) (fun x4_1 ls hl => ?_)
  exact wb_X9_dipRow_5 C hr  zz_fuel a0 x1 x2 x4_1 h0 M ls (lv_sub hl [1, 2, 3, 0] rfl)
-- X9_firstRow ('X9', 'firstRow', '(III)I')
theorem hdV_X9_dipRow : yX9_dipRow.cls = RX9 ∧ yX9_dipRow.cls ≠ "java/lang/invoke/MethodHandle" ∧ yX9_dipRow.cls ≠ "java/lang/invoke/VarHandle" ∧ (parseMethodDescriptor yX9_dipRow.desc).map (fun d => d.parameters.length) = some 3 := by decide +kernel
def b_X9_firstRow_44 (k6 : Nat → Int32 → Int32 → Int32 → Int32 → Int32 → zz_M → Option (Int32 × zz_M)) (a0 : Nat) (x1 : Int32) (x2 : Int32) (x3 : Int32) (x5 : Int32) (st0 : Int32) (M : zz_M) : Option (Int32 × zz_M) := zz_bd (f_X9_putsBack a0 x1 M) (fun _ M_7 => zz_w (x5 + (1 : Int32)) (fun x5_8 => k6 a0 x1 x2 x3 st0 x5_8 M_7))
set_option maxRecDepth 100000 in
set_option maxHeartbeats 4000000 in
theorem wb_X9_firstRow_44 {p : Program} {l : Launch} {e : Env} {s : State} {m : MethodId} {args : Array Value} {below : List Frame} {meth : Method} {c : Code} {E : zz_E} (C : zz_C E RX9 cX9_firstRow 6 wsX9_firstRow p s m args meth c) (hr : meth.sig.returnType = (some .int)) {k6 : Nat → Int32 → Int32 → Int32 → Int32 → Int32 → zz_M → Option (Int32 × zz_M)} (hk6 : ∀ (a0 : Nat) (x1 : Int32) (x2 : Int32) (x3 : Int32) (x4 : Int32) (x5 : Int32) (ha0 : zz_sh a0 = 9) (M : zz_M) (ls : Array Slot), lv_has ls 6 [(0, .ref (E.1 + a0)), (1, .int x1), (2, .int x2), (3, .int x3), (4, .int x4), (5, .int x5)] → zz_Z E p l e (zz_rm 6) s m args below meth c (zz_Q (zz_pi E) E below args s) (k6 a0 x1 x2 x3 x4 x5 M) M (F0 m 6 ls [])) : ∀ (a0 : Nat) (x1 : Int32) (x2 : Int32) (x3 : Int32) (x5 : Int32) (st0 : Int32) (ha0 : zz_sh a0 = 9) (M : zz_M) (ls : Array Slot), lv_has ls 6 [(0, .ref (E.1 + a0)), (1, .int x1), (2, .int x2), (3, .int x3), (5, .int x5)] → zz_Z E p l e (zz_rm 6) s m args below meth c (zz_Q (zz_pi E) E below args s) (b_X9_firstRow_44 k6 a0 x1 x2 x3 x5 st0 M) M (F0 m 44 ls [.int st0]) := by
  intro a0 x1 x2 x3 x5 st0 ha0 M ls hl
  unfold b_X9_firstRow_44
  refine zz_istored (lv' := [(4, .int st0), (0, .ref (E.1 + a0)), (1, .int x1), (2, .int x2), (3, .int x3), (5, .int x5)]) C dX9_firstRow_44 hl (by decide) rfl (fun ls hl => ?_)
  refine zz_aload_n C dX9_firstRow_46 rfl (lv_at hl 1 rfl) ?_
  refine zz_iload_n C dX9_firstRow_47 rfl (lv_at hl 2 rfl) ?_
  refine zz_callVv (As := [.int x1]) (rest := []) C (m_X9_putsBack l E a0 x1 ha0 M) (cwV 1 C.1.2.2.2.2 gX9_firstRow_X9_putsBack rfl rfl rfl hdV_X9_putsBack ⟨Nat.le_of_ble_eq_true rfl, Nat.le_of_ble_eq_true rfl⟩) (zz_lt ha0 (by decide)) (zz_c9 ha0) rfl rfl hl.1 rfl (Nat.le_of_ble_eq_true rfl) dX9_firstRow_48 (fun _ M_7 => ?_)
  refine zz_iinc (k9 := 5) (d := 1) C (fun x5_8 => [(5, .int x5_8), (4, .int st0), (0, .ref (E.1 + a0)), (1, .int x1), (2, .int x2), (3, .int x3)]) dX9_firstRow_51 hl rfl (by decide) (by decide) (fun _ => rfl) (fun x5_8 ls hl => ?_)
  refine zz_goto (tgt := 6) C dX9_firstRow_54 (by decide) ?_
  exact hk6 a0 x1 x2 x3 st0 x5_8 ha0 M_7 ls (lv_sub hl [2, 3, 4, 5, 1, 0] rfl)
def b_X9_firstRow_6 : Nat → Nat → Int32 → Int32 → Int32 → Int32 → Int32 → zz_M → Option (Int32 × zz_M)
  | 0 => fun _ _ _ _ _ _ _ => none
  | n + 1 => fun a0 x1 x2 x3 x4 x5 M => (if ((1 : Int32) <<< (((2 : Int32) * x3) &&& (31 : Int32))) ≤ x5 then some (x4, M) else (if 0 ≤ x4 then some (x4, M) else zz_bd (f_X9_dipRow a0 x1 x5 x3 M) (fun _ M_3 => zz_bd (f_X9_burnsOf a0 x1 M_3) (fun r_4 M_5 => (if r_4 < x2 then b_X9_firstRow_44 (b_X9_firstRow_6 n) a0 x1 x2 x3 x5 (-1 : Int32) M_5 else b_X9_firstRow_44 (b_X9_firstRow_6 n) a0 x1 x2 x3 x5 x5 M_5)))))
set_option maxRecDepth 100000 in
set_option maxHeartbeats 4000000 in
theorem wb_X9_firstRow_6 {p : Program} {l : Launch} {e : Env} {s : State} {m : MethodId} {args : Array Value} {below : List Frame} {meth : Method} {c : Code} {E : zz_E} (C : zz_C E RX9 cX9_firstRow 6 wsX9_firstRow p s m args meth c) (hr : meth.sig.returnType = (some .int)) : ∀ (n : Nat) (a0 : Nat) (x1 : Int32) (x2 : Int32) (x3 : Int32) (x4 : Int32) (x5 : Int32) (ha0 : zz_sh a0 = 9) (M : zz_M) (ls : Array Slot), lv_has ls 6 [(0, .ref (E.1 + a0)), (1, .int x1), (2, .int x2), (3, .int x3), (4, .int x4), (5, .int x5)] → zz_Z E p l e (zz_rm 6) s m args below meth c (zz_Q (zz_pi E) E below args s) (b_X9_firstRow_6 n a0 x1 x2 x3 x4 x5 M) M (F0 m 6 ls []) := by
  intro n
  induction n with
  | zero => intro a0 x1 x2 x3 x4 x5 ha0 M ls hl; exact zz_none
  | succ n ih =>
    intro a0 x1 x2 x3 x4 x5 ha0 M ls hl
    rw [b_X9_firstRow_6]
    refine zz_iload C dX9_firstRow_6 (lv_at hl 5 rfl) ?_
    refine zz_iconst (v := 1) C dX9_firstRow_8 (by decide) ?_
    refine zz_iconst (v := 2) C dX9_firstRow_9 (by decide) ?_
    refine zz_iload_n C dX9_firstRow_10 rfl (lv_at hl 3 rfl) ?_
    refine zz_imul C dX9_firstRow_11 ?_
    refine zz_ishl C dX9_firstRow_12 ?_
    refine zz_icmp_ge (tgt := 57) C dX9_firstRow_13 (by decide) (fun c_1 => ?_) (fun c_1 => ?_)
    · refine zz_iload C dX9_firstRow_57 (lv_at hl 4 rfl) ?_
      exact zz_iret C hr dX9_firstRow_59
    · refine zz_iload C dX9_firstRow_16 (lv_at hl 4 rfl) ?_
      refine zz_if_ge (tgt := 57) C dX9_firstRow_18 (by decide) (fun c_2 => ?_) (fun c_2 => ?_)
      · refine zz_iload C dX9_firstRow_57 (lv_at hl 4 rfl) ?_
        exact zz_iret C hr dX9_firstRow_59
      · refine zz_aload_n C dX9_firstRow_21 rfl (lv_at hl 0 rfl) ?_
        refine zz_iload_n C dX9_firstRow_22 rfl (lv_at hl 1 rfl) ?_
        refine zz_iload C dX9_firstRow_23 (lv_at hl 5 rfl) ?_
        refine zz_iload_n C dX9_firstRow_25 rfl (lv_at hl 3 rfl) ?_
        refine zz_callVv (As := [.int x1, .int x5, .int x3]) (rest := []) C (m_X9_dipRow l E a0 x1 x5 x3 ha0 M) (cwV 3 C.1.2.2.2.2 gX9_firstRow_X9_dipRow rfl rfl rfl hdV_X9_dipRow ⟨Nat.le_of_ble_eq_true rfl, Nat.le_of_ble_eq_true rfl⟩) (zz_lt ha0 (by decide)) (zz_c9 ha0) rfl rfl hl.1 rfl (Nat.le_of_ble_eq_true rfl) dX9_firstRow_26 (fun _ M_3 => ?_)
        refine zz_aload_n C dX9_firstRow_29 rfl (lv_at hl 0 rfl) ?_
        refine zz_iload_n C dX9_firstRow_30 rfl (lv_at hl 1 rfl) ?_
        refine zz_callVi (As := [.int x1]) (rest := []) C (m_X9_burnsOf l E a0 x1 ha0 M_3) (cwV 1 C.1.2.2.2.2 gX9_firstRow_X9_burnsOf rfl rfl rfl hdV_X9_burnsOf ⟨Nat.le_of_ble_eq_true rfl, Nat.le_of_ble_eq_true rfl⟩) (zz_lt ha0 (by decide)) (zz_c9 ha0) rfl rfl hl.1 rfl (Nat.le_of_ble_eq_true rfl) dX9_firstRow_31 (fun r_4 M_5 => ?_)
        refine zz_iload_n C dX9_firstRow_34 rfl (lv_at hl 2 rfl) ?_
        refine zz_icmp_lt (tgt := 43) C dX9_firstRow_35 (by decide) (fun c_6 => ?_) (fun c_6 => ?_)
        · refine zz_iconst (v := -1) C dX9_firstRow_43 (by decide) ?_
          exact wb_X9_firstRow_44 C hr ih a0 x1 x2 x3 x5 (-1 : Int32) ha0 M_5 ls (lv_sub hl [0, 1, 2, 3, 5] rfl)
        · refine zz_iload C dX9_firstRow_38 (lv_at hl 5 rfl) ?_
          refine zz_goto (tgt := 44) C dX9_firstRow_40 (by decide) ?_
          exact wb_X9_firstRow_44 C hr ih a0 x1 x2 x3 x5 x5 ha0 M_5 ls (lv_sub hl [0, 1, 2, 3, 5] rfl)
def f_X9_firstRow (a0 : Nat) (x1 : Int32) (x2 : Int32) (x3 : Int32) (M : zz_M) : Option (Int32 × zz_M) := b_X9_firstRow_6  zz_fuel a0 x1 x2 x3 (-1 : Int32) (0 : Int32) M
set_option maxRecDepth 100000 in
set_option maxHeartbeats 4000000 in
theorem m_X9_firstRow (l : Launch) (E : zz_E) (a0 : Nat) (x1 : Int32) (x2 : Int32) (x3 : Int32) (h0 : zz_sh a0 = 9) (M : zz_M) : zz_Met (zz_pi E) l yX9_firstRow wsX9_firstRow 6 E [.ref (E.1 + a0), .int x1, .int x2, .int x3] M (f_X9_firstRow a0 x1 x2 x3 M) := by
  refine zz_met (cc := cX9_firstRow) (nL := 6) (ret := (some .int)) (by decide) rfl (Nat.le_of_ble_eq_true rfl) ?_
  intro p e s m below meth c C hr ls hl
  have C : zz_C E RX9 cX9_firstRow 6 wsX9_firstRow p s m [.ref (E.1 + a0), .int x1, .int x2, .int x3].toArray meth c := C
  have hl : lv_has ls 6 [(0, .ref (E.1 + a0)), (1, .int x1), (2, .int x2), (3, .int x3)] := hl
  unfold f_X9_firstRow
  refine zz_iconst (v := -1) C dX9_firstRow_0 (by decide) ?_
  refine zz_istored (lv' := [(4, .int (-1 : Int32)), (0, .ref (E.1 + a0)), (1, .int x1), (2, .int x2), (3, .int x3)]) C dX9_firstRow_1 hl (by decide) rfl (fun ls hl => ?_)
  refine zz_iconst (v := 0) C dX9_firstRow_3 (by decide) ?_
  refine zz_istored (lv' := [(5, .int (0 : Int32)), (4, .int (-1 : Int32)), (0, .ref (E.1 + a0)), (1, .int x1), (2, .int x2), (3, .int x3)]) C dX9_firstRow_4 hl (by decide) rfl (fun ls hl => ?_)
  exact wb_X9_firstRow_6 C hr  zz_fuel a0 x1 x2 x3 (-1 : Int32) (0 : Int32) h0 M ls (lv_sub hl [2, 3, 4, 5, 1, 0] rfl)
-- X9_fewestOf ('X9', 'fewestOf', '(II)I')
theorem in_X9_fewestOf_X9 : ∀ w ∈ u_ws RX9 TX9 20, w ∈ wsX9_fewestOf := fun _ h => List.mem_cons_of_mem _ (List.mem_append_right _ h)
theorem hdV_X9_firstRow : yX9_firstRow.cls = RX9 ∧ yX9_firstRow.cls ≠ "java/lang/invoke/MethodHandle" ∧ yX9_firstRow.cls ≠ "java/lang/invoke/VarHandle" ∧ (parseMethodDescriptor yX9_firstRow.desc).map (fun d => d.parameters.length) = some 3 := by decide +kernel
def b_X9_fewestOf_42 (a0 : Nat) (x3 : Int32) (M : zz_M) : Option (Int32 × zz_M) := (if 0 ≤ (zz_i M a0 4) then some (x3, M) else some ((-1 : Int32), M))
set_option maxRecDepth 100000 in
set_option maxHeartbeats 4000000 in
theorem wb_X9_fewestOf_42 {p : Program} {l : Launch} {e : Env} {s : State} {m : MethodId} {args : Array Value} {below : List Frame} {meth : Method} {c : Code} {E : zz_E} (C : zz_C E RX9 cX9_fewestOf 4 wsX9_fewestOf p s m args meth c) (hr : meth.sig.returnType = (some .int)) : ∀ (a0 : Nat) (x3 : Int32) (ha0 : zz_sh a0 = 9) (M : zz_M) (ls : Array Slot), lv_has ls 4 [(0, .ref (E.1 + a0)), (3, .int x3)] → zz_Z E p l e (zz_rm 7) s m args below meth c (zz_Q (zz_pi E) E below args s) (b_X9_fewestOf_42 a0 x3 M) M (F0 m 42 ls []) := by
  intro a0 x3 ha0 M ls hl
  unfold b_X9_fewestOf_42
  refine zz_aload_n C dX9_fewestOf_42 rfl (lv_at hl 0 rfl) ?_
  refine zz_get C (zz_lt ha0 (by decide)) (zz_c9 ha0) rfl in_X9_fewestOf_X9 4 (by decide) (List.mem_of_getElem? (i := 1) rfl) rfl dX9_fewestOf_43 ?_
  refine zz_if_ge (tgt := 53) C dX9_fewestOf_46 (by decide) (fun c_9 => ?_) (fun c_9 => ?_)
  · refine zz_iload_n C dX9_fewestOf_53 rfl (lv_at hl 1 rfl) ?_
    exact zz_iret C hr dX9_fewestOf_54
  · refine zz_iconst (v := -1) C dX9_fewestOf_49 (by decide) ?_
    refine zz_goto (tgt := 54) C dX9_fewestOf_50 (by decide) ?_
    exact zz_iret C hr dX9_fewestOf_54
def b_X9_fewestOf_12 : Nat → Nat → Int32 → Int32 → Int32 → zz_M → Option (Int32 × zz_M)
  | 0 => fun _ _ _ _ _ => none
  | n + 1 => fun a0 x1 x2 x3 M => (if 0 ≤ (zz_i M a0 4) then b_X9_fewestOf_42  a0 x3 M else (if (6 : Int32) ≤ x3 then b_X9_fewestOf_42  a0 x3 M else zz_w (x3 + (1 : Int32)) (fun x3_5 => zz_bd (f_X9_firstRow a0 x1 x2 x3_5 M) (fun r_6 M_7 => zz_w (zz_si M_7 a0 4 r_6) (fun M_8 => (b_X9_fewestOf_12 n) a0 x1 x2 x3_5 M_8)))))
set_option maxRecDepth 100000 in
set_option maxHeartbeats 4000000 in
theorem wb_X9_fewestOf_12 {p : Program} {l : Launch} {e : Env} {s : State} {m : MethodId} {args : Array Value} {below : List Frame} {meth : Method} {c : Code} {E : zz_E} (C : zz_C E RX9 cX9_fewestOf 4 wsX9_fewestOf p s m args meth c) (hr : meth.sig.returnType = (some .int)) : ∀ (n : Nat) (a0 : Nat) (x1 : Int32) (x2 : Int32) (x3 : Int32) (ha0 : zz_sh a0 = 9) (M : zz_M) (ls : Array Slot), lv_has ls 4 [(0, .ref (E.1 + a0)), (1, .int x1), (2, .int x2), (3, .int x3)] → zz_Z E p l e (zz_rm 7) s m args below meth c (zz_Q (zz_pi E) E below args s) (b_X9_fewestOf_12 n a0 x1 x2 x3 M) M (F0 m 12 ls []) := by
  intro n
  induction n with
  | zero => intro a0 x1 x2 x3 ha0 M ls hl; exact zz_none
  | succ n ih =>
    intro a0 x1 x2 x3 ha0 M ls hl
    rw [b_X9_fewestOf_12]
    refine zz_aload_n C dX9_fewestOf_12 rfl (lv_at hl 0 rfl) ?_
    refine zz_get C (zz_lt ha0 (by decide)) (zz_c9 ha0) rfl in_X9_fewestOf_X9 4 (by decide) (List.mem_of_getElem? (i := 1) rfl) rfl dX9_fewestOf_13 ?_
    refine zz_if_ge (tgt := 42) C dX9_fewestOf_16 (by decide) (fun c_3 => ?_) (fun c_3 => ?_)
    · exact wb_X9_fewestOf_42 C hr  a0 x3 ha0 M ls (lv_sub hl [0, 3] rfl)
    · refine zz_iload_n C dX9_fewestOf_19 rfl (lv_at hl 3 rfl) ?_
      refine zz_bipush (v := 6) C dX9_fewestOf_20 (by decide) ?_
      refine zz_icmp_ge (tgt := 42) C dX9_fewestOf_22 (by decide) (fun c_4 => ?_) (fun c_4 => ?_)
      · exact wb_X9_fewestOf_42 C hr  a0 x3 ha0 M ls (lv_sub hl [0, 3] rfl)
      · refine zz_iinc (k9 := 3) (d := 1) C (fun x3_5 => [(3, .int x3_5), (0, .ref (E.1 + a0)), (1, .int x1), (2, .int x2)]) dX9_fewestOf_25 hl rfl (by decide) (by decide) (fun _ => rfl) (fun x3_5 ls hl => ?_)
        refine zz_aload_n C dX9_fewestOf_28 rfl (lv_at hl 1 rfl) ?_
        refine zz_aload_n C dX9_fewestOf_29 rfl (lv_at hl 1 rfl) ?_
        refine zz_iload_n C dX9_fewestOf_30 rfl (lv_at hl 2 rfl) ?_
        refine zz_iload_n C dX9_fewestOf_31 rfl (lv_at hl 3 rfl) ?_
        refine zz_iload_n C dX9_fewestOf_32 rfl (lv_at hl 0 rfl) ?_
        refine zz_callVi (As := [.int x1, .int x2, .int x3_5]) (rest := [.ref (E.1 + a0)]) C (m_X9_firstRow l E a0 x1 x2 x3_5 ha0 M) (cwV 3 C.1.2.2.2.2 gX9_fewestOf_X9_firstRow rfl rfl rfl hdV_X9_firstRow ⟨Nat.le_of_ble_eq_true rfl, Nat.le_of_ble_eq_true rfl⟩) (zz_lt ha0 (by decide)) (zz_c9 ha0) rfl rfl hl.1 rfl (Nat.le_of_ble_eq_true rfl) dX9_fewestOf_33 (fun r_6 M_7 => ?_)
        refine zz_put (M1 := zz_si M_7 a0 4 r_6) C (zz_lt ha0 (by decide)) (zz_c9 ha0) rfl in_X9_fewestOf_X9 tyX9 tyX9_ok nmX9 4 (by decide) (List.mem_of_getElem? (i := 1) rfl) rfl rfl rfl (Nat.le_of_ble_eq_true rfl) (zz_p9_4 ha0) zz_cell_si dX9_fewestOf_36 (fun M_8 => ?_)
        refine zz_goto (tgt := 12) C dX9_fewestOf_39 (by decide) ?_
        exact ih a0 x1 x2 x3_5 ha0 M_8 ls (lv_sub hl [1, 2, 3, 0] rfl)
def f_X9_fewestOf (a0 : Nat) (x1 : Int32) (x2 : Int32) (M : zz_M) : Option (Int32 × zz_M) := zz_bd (f_X9_keeps a0 x1 M) (fun _ M_1 => zz_w (zz_si M_1 a0 4 (-1 : Int32)) (fun M_2 => b_X9_fewestOf_12  zz_fuel a0 x1 x2 (-1 : Int32) M_2))
set_option maxRecDepth 100000 in
set_option maxHeartbeats 4000000 in
theorem m_X9_fewestOf (l : Launch) (E : zz_E) (a0 : Nat) (x1 : Int32) (x2 : Int32) (h0 : zz_sh a0 = 9) (M : zz_M) : zz_Met (zz_pi E) l yX9_fewestOf wsX9_fewestOf 7 E [.ref (E.1 + a0), .int x1, .int x2] M (f_X9_fewestOf a0 x1 x2 M) := by
  refine zz_met (cc := cX9_fewestOf) (nL := 4) (ret := (some .int)) (by decide) rfl (Nat.le_of_ble_eq_true rfl) ?_
  intro p e s m below meth c C hr ls hl
  have C : zz_C E RX9 cX9_fewestOf 4 wsX9_fewestOf p s m [.ref (E.1 + a0), .int x1, .int x2].toArray meth c := C
  have hl : lv_has ls 4 [(0, .ref (E.1 + a0)), (1, .int x1), (2, .int x2)] := hl
  unfold f_X9_fewestOf
  refine zz_aload_n C dX9_fewestOf_0 rfl (lv_at hl 0 rfl) ?_
  refine zz_iload_n C dX9_fewestOf_1 rfl (lv_at hl 1 rfl) ?_
  refine zz_callVv (As := [.int x1]) (rest := []) C (m_X9_keeps l E a0 x1 h0 M) (cwV 1 C.1.2.2.2.2 gX9_fewestOf_X9_keeps rfl rfl rfl hdV_X9_keeps ⟨Nat.le_of_ble_eq_true rfl, Nat.le_of_ble_eq_true rfl⟩) (zz_lt h0 (by decide)) (zz_c9 h0) rfl rfl hl.1 rfl (Nat.le_of_ble_eq_true rfl) dX9_fewestOf_2 (fun _ M_1 => ?_)
  refine zz_aload_n C dX9_fewestOf_5 rfl (lv_at hl 0 rfl) ?_
  refine zz_iconst (v := -1) C dX9_fewestOf_6 (by decide) ?_
  refine zz_put (M1 := zz_si M_1 a0 4 (-1 : Int32)) C (zz_lt h0 (by decide)) (zz_c9 h0) rfl in_X9_fewestOf_X9 tyX9 tyX9_ok nmX9 4 (by decide) (List.mem_of_getElem? (i := 1) rfl) rfl rfl rfl (Nat.le_of_ble_eq_true rfl) (zz_p9_4 h0) zz_cell_si dX9_fewestOf_7 (fun M_2 => ?_)
  refine zz_iconst (v := -1) C dX9_fewestOf_10 (by decide) ?_
  refine zz_istored_n (lv' := [(3, .int (-1 : Int32)), (0, .ref (E.1 + a0)), (1, .int x1), (2, .int x2)]) C dX9_fewestOf_11 rfl hl (by decide) rfl (fun ls hl => ?_)
  exact wb_X9_fewestOf_12 C hr  zz_fuel a0 x1 x2 (-1 : Int32) h0 M_2 ls (lv_sub hl [1, 2, 3, 0] rfl)
-- X9_isMinutes ('X9', 'isMinutes', '(I)Z')
def f_X9_isMinutes (x0 : Int32) (M : zz_M) : Option (Int32 × zz_M) := zz_bd (f_X9_in x0 (0 : Int32) (9999 : Int32) M) (fun r_1 M_2 => (if zz_bit r_1 = true then some (r_1, M_2) else none))
set_option maxRecDepth 100000 in
set_option maxHeartbeats 4000000 in
theorem m_X9_isMinutes (l : Launch) (E : zz_E) (x0 : Int32)  (M : zz_M) : zz_Met (zz_pi E) l yX9_isMinutes wsX9_isMinutes 2 E [.int x0] M (f_X9_isMinutes x0 M) := by
  refine zz_met (cc := cX9_isMinutes) (nL := 1) (ret := (some .boolean)) (by decide) rfl (Nat.le_of_ble_eq_true rfl) ?_
  intro p e s m below meth c C hr ls hl
  have C : zz_C E RX9 cX9_isMinutes 1 wsX9_isMinutes p s m [.int x0].toArray meth c := C
  have hl : lv_has ls 1 [(0, .int x0)] := hl
  unfold f_X9_isMinutes
  refine zz_iload_n C dX9_isMinutes_0 rfl (lv_at hl 0 rfl) ?_
  refine zz_iconst (v := 0) C dX9_isMinutes_1 (by decide) ?_
  refine zz_sipush (v := 9999) C dX9_isMinutes_2 (by decide) ?_
  refine zz_callSi (As := [.int x0, .int (0 : Int32), .int (9999 : Int32)]) (rest := []) C (m_X9_in l E x0 (0 : Int32) (9999 : Int32)  M) (va_cwS 3 C.1.2.2.2.2 gX9_isMinutes_X9_in rfl rfl rfl hdS_X9_in ⟨Nat.le_of_ble_eq_true rfl, Nat.le_of_ble_eq_true rfl⟩) rfl hl.1 rfl (Nat.le_of_ble_eq_true rfl) dX9_isMinutes_5 (fun r_1 M_2 => ?_)
  exact zz_zret C hr dX9_isMinutes_8
-- X9_fewest ('X9', 'fewest', '(II)I')
theorem hdS_X9_isMinutes : yX9_isMinutes.cls ≠ "java/lang/invoke/MethodHandle" ∧ yX9_isMinutes.cls ≠ "java/lang/invoke/VarHandle" ∧ (parseMethodDescriptor yX9_isMinutes.desc).map (fun d => d.parameters.length) = some 1 := by decide +kernel
theorem hdV_X9_fewestOf : yX9_fewestOf.cls = RX9 ∧ yX9_fewestOf.cls ≠ "java/lang/invoke/MethodHandle" ∧ yX9_fewestOf.cls ≠ "java/lang/invoke/VarHandle" ∧ (parseMethodDescriptor yX9_fewestOf.desc).map (fun d => d.parameters.length) = some 2 := by decide +kernel
def f_X9_fewest (a0 : Nat) (x1 : Int32) (x2 : Int32) (M : zz_M) : Option (Int32 × zz_M) := zz_bd (f_X9_isCandle a0 x1 M) (fun r_1 M_2 => (if r_1 = 0 then zz_bd (f_X9_finds a0 (-1000000001 : Int32) M_2) (fun r_4 M_5 => some (r_4, M_5)) else zz_bd (f_X9_isMinutes x2 M_2) (fun r_6 M_7 => (if r_6 = 0 then zz_bd (f_X9_finds a0 (-1000000001 : Int32) M_7) (fun r_14 M_15 => some (r_14, M_15)) else zz_bd (f_X9_fewestOf a0 x1 x2 M_7) (fun r_9 M_10 => (if 0 ≤ r_9 then some (r_9, M_10) else zz_bd (f_X9_finds a0 (-1000000004 : Int32) M_10) (fun r_12 M_13 => some (r_12, M_13))))))))
set_option maxRecDepth 100000 in
set_option maxHeartbeats 4000000 in
theorem m_X9_fewest (l : Launch) (E : zz_E) (a0 : Nat) (x1 : Int32) (x2 : Int32) (h0 : zz_sh a0 = 9) (M : zz_M) : zz_Met (zz_pi E) l yX9_fewest wsX9_fewest 8 E [.ref (E.1 + a0), .int x1, .int x2] M (f_X9_fewest a0 x1 x2 M) := by
  refine zz_met (cc := cX9_fewest) (nL := 4) (ret := (some .int)) (by decide) rfl (Nat.le_of_ble_eq_true rfl) ?_
  intro p e s m below meth c C hr ls hl
  have C : zz_C E RX9 cX9_fewest 4 wsX9_fewest p s m [.ref (E.1 + a0), .int x1, .int x2].toArray meth c := C
  have hl : lv_has ls 4 [(0, .ref (E.1 + a0)), (1, .int x1), (2, .int x2)] := hl
  unfold f_X9_fewest
  refine zz_aload_n C dX9_fewest_0 rfl (lv_at hl 0 rfl) ?_
  refine zz_iload_n C dX9_fewest_1 rfl (lv_at hl 1 rfl) ?_
  refine zz_callVi (As := [.int x1]) (rest := []) C (m_X9_isCandle l E a0 x1 h0 M) (cwV 1 C.1.2.2.2.2 gX9_fewest_X9_isCandle rfl rfl rfl hdV_X9_isCandle ⟨Nat.le_of_ble_eq_true rfl, Nat.le_of_ble_eq_true rfl⟩) (zz_lt h0 (by decide)) (zz_c9 h0) rfl rfl hl.1 rfl (Nat.le_of_ble_eq_true rfl) dX9_fewest_2 (fun r_1 M_2 => ?_)
  refine zz_if_eq (tgt := 15) C dX9_fewest_5 (by decide) (fun c_3 => ?_) (fun c_3 => ?_)
  · refine zz_aload_n C dX9_fewest_15 rfl (lv_at hl 0 rfl) ?_
    refine zz_ldc (v := -1000000001) C (List.mem_of_getElem? (i := 1) rfl) dX9_fewest_16 ?_
    refine zz_callVi (As := [.int (-1000000001 : Int32)]) (rest := []) C (m_X9_finds l E a0 (-1000000001 : Int32) h0 M_2) (cwV 1 C.1.2.2.2.2 gX9_fewest_X9_finds rfl rfl rfl hdV_X9_finds ⟨Nat.le_of_ble_eq_true rfl, Nat.le_of_ble_eq_true rfl⟩) (zz_lt h0 (by decide)) (zz_c9 h0) rfl rfl hl.1 rfl (Nat.le_of_ble_eq_true rfl) dX9_fewest_18 (fun r_4 M_5 => ?_)
    exact zz_iret C hr dX9_fewest_21
  · refine zz_iload_n C dX9_fewest_8 rfl (lv_at hl 2 rfl) ?_
    refine zz_callSi (As := [.int x2]) (rest := []) C (m_X9_isMinutes l E x2  M_2) (va_cwS 1 C.1.2.2.2.2 gX9_fewest_X9_isMinutes rfl rfl rfl hdS_X9_isMinutes ⟨Nat.le_of_ble_eq_true rfl, Nat.le_of_ble_eq_true rfl⟩) rfl hl.1 rfl (Nat.le_of_ble_eq_true rfl) dX9_fewest_9 (fun r_6 M_7 => ?_)
    refine zz_if_ne (tgt := 22) C dX9_fewest_12 (by decide) (fun c_8 => ?_) (fun c_8 => ?_)
    · refine zz_aload_n C dX9_fewest_15 rfl (lv_at hl 0 rfl) ?_
      refine zz_ldc (v := -1000000001) C (List.mem_of_getElem? (i := 1) rfl) dX9_fewest_16 ?_
      refine zz_callVi (As := [.int (-1000000001 : Int32)]) (rest := []) C (m_X9_finds l E a0 (-1000000001 : Int32) h0 M_7) (cwV 1 C.1.2.2.2.2 gX9_fewest_X9_finds rfl rfl rfl hdV_X9_finds ⟨Nat.le_of_ble_eq_true rfl, Nat.le_of_ble_eq_true rfl⟩) (zz_lt h0 (by decide)) (zz_c9 h0) rfl rfl hl.1 rfl (Nat.le_of_ble_eq_true rfl) dX9_fewest_18 (fun r_14 M_15 => ?_)
      exact zz_iret C hr dX9_fewest_21
    · refine zz_aload_n C dX9_fewest_22 rfl (lv_at hl 0 rfl) ?_
      refine zz_iload_n C dX9_fewest_23 rfl (lv_at hl 1 rfl) ?_
      refine zz_iload_n C dX9_fewest_24 rfl (lv_at hl 2 rfl) ?_
      refine zz_callVi (As := [.int x1, .int x2]) (rest := []) C (m_X9_fewestOf l E a0 x1 x2 h0 M_7) (cwV 2 C.1.2.2.2.2 gX9_fewest_X9_fewestOf rfl rfl rfl hdV_X9_fewestOf ⟨Nat.le_of_ble_eq_true rfl, Nat.le_of_ble_eq_true rfl⟩) (zz_lt h0 (by decide)) (zz_c9 h0) rfl rfl hl.1 rfl (Nat.le_of_ble_eq_true rfl) dX9_fewest_25 (fun r_9 M_10 => ?_)
      refine zz_istored_n (lv' := [(3, .int r_9), (0, .ref (E.1 + a0)), (1, .int x1), (2, .int x2)]) C dX9_fewest_28 rfl hl (by decide) rfl (fun ls hl => ?_)
      refine zz_iload_n C dX9_fewest_29 rfl (lv_at hl 0 rfl) ?_
      refine zz_if_ge (tgt := 42) C dX9_fewest_30 (by decide) (fun c_11 => ?_) (fun c_11 => ?_)
      · refine zz_iload_n C dX9_fewest_42 rfl (lv_at hl 0 rfl) ?_
        exact zz_iret C hr dX9_fewest_43
      · refine zz_aload_n C dX9_fewest_33 rfl (lv_at hl 1 rfl) ?_
        refine zz_ldc (v := -1000000004) C (List.mem_of_getElem? (i := 2) rfl) dX9_fewest_34 ?_
        refine zz_callVi (As := [.int (-1000000004 : Int32)]) (rest := []) C (m_X9_finds l E a0 (-1000000004 : Int32) h0 M_10) (cwV 1 C.1.2.2.2.2 gX9_fewest_X9_finds rfl rfl rfl hdV_X9_finds ⟨Nat.le_of_ble_eq_true rfl, Nat.le_of_ble_eq_true rfl⟩) (zz_lt h0 (by decide)) (zz_c9 h0) rfl rfl hl.1 rfl (Nat.le_of_ble_eq_true rfl) dX9_fewest_36 (fun r_12 M_13 => ?_)
        refine zz_goto (tgt := 43) C dX9_fewest_39 (by decide) ?_
        exact zz_iret C hr dX9_fewest_43
-- X9_ith ('X9', 'ith', '(III)I')
theorem in_X9_ith_X9 : ∀ w ∈ u_ws RX9 TX9 20, w ∈ wsX9_ith := fun _ h => List.mem_cons_of_mem _ (List.mem_append_right _ h)
def f_X9_ith (a0 : Nat) (x1 : Int32) (x2 : Int32) (x3 : Int32) (M : zz_M) : Option (Int32 × zz_M) := zz_bd (f_X9_isCandle a0 x1 M) (fun r_1 M_2 => (if r_1 = 0 then zz_bd (f_X9_finds a0 (-1000000001 : Int32) M_2) (fun r_4 M_5 => some (r_4, M_5)) else zz_bd (f_X9_isMinutes x2 M_2) (fun r_6 M_7 => (if r_6 = 0 then zz_bd (f_X9_finds a0 (-1000000001 : Int32) M_7) (fun r_9 M_10 => some (r_9, M_10)) else zz_bd (f_X9_in x3 (0 : Int32) (5 : Int32) M_7) (fun r_11 M_12 => (if r_11 = 0 then zz_bd (f_X9_finds a0 (-1000000001 : Int32) M_12) (fun r_19 M_20 => some (r_19, M_20)) else zz_bd (f_X9_fewestOf a0 x1 x2 M_12) (fun r_14 M_15 => (if x3 < r_14 then some ((((zz_i M_15 a0 4) >>> (((2 : Int32) * ((r_14 - (1 : Int32)) - x3)) &&& (31 : Int32))) &&& (3 : Int32)), M_15) else zz_bd (f_X9_finds a0 (-1000000004 : Int32) M_15) (fun r_17 M_18 => some (r_17, M_18))))))))))
set_option maxRecDepth 100000 in
set_option maxHeartbeats 4000000 in
theorem m_X9_ith (l : Launch) (E : zz_E) (a0 : Nat) (x1 : Int32) (x2 : Int32) (x3 : Int32) (h0 : zz_sh a0 = 9) (M : zz_M) : zz_Met (zz_pi E) l yX9_ith wsX9_ith 8 E [.ref (E.1 + a0), .int x1, .int x2, .int x3] M (f_X9_ith a0 x1 x2 x3 M) := by
  refine zz_met (cc := cX9_ith) (nL := 5) (ret := (some .int)) (by decide) rfl (Nat.le_of_ble_eq_true rfl) ?_
  intro p e s m below meth c C hr ls hl
  have C : zz_C E RX9 cX9_ith 5 wsX9_ith p s m [.ref (E.1 + a0), .int x1, .int x2, .int x3].toArray meth c := C
  have hl : lv_has ls 5 [(0, .ref (E.1 + a0)), (1, .int x1), (2, .int x2), (3, .int x3)] := hl
  unfold f_X9_ith
  refine zz_aload_n C dX9_ith_0 rfl (lv_at hl 0 rfl) ?_
  refine zz_iload_n C dX9_ith_1 rfl (lv_at hl 1 rfl) ?_
  refine zz_callVi (As := [.int x1]) (rest := []) C (m_X9_isCandle l E a0 x1 h0 M) (cwV 1 C.1.2.2.2.2 gX9_ith_X9_isCandle rfl rfl rfl hdV_X9_isCandle ⟨Nat.le_of_ble_eq_true rfl, Nat.le_of_ble_eq_true rfl⟩) (zz_lt h0 (by decide)) (zz_c9 h0) rfl rfl hl.1 rfl (Nat.le_of_ble_eq_true rfl) dX9_ith_2 (fun r_1 M_2 => ?_)
  refine zz_if_eq (tgt := 24) C dX9_ith_5 (by decide) (fun c_3 => ?_) (fun c_3 => ?_)
  · refine zz_aload_n C dX9_ith_24 rfl (lv_at hl 0 rfl) ?_
    refine zz_ldc (v := -1000000001) C (List.mem_of_getElem? (i := 1) rfl) dX9_ith_25 ?_
    refine zz_callVi (As := [.int (-1000000001 : Int32)]) (rest := []) C (m_X9_finds l E a0 (-1000000001 : Int32) h0 M_2) (cwV 1 C.1.2.2.2.2 gX9_ith_X9_finds rfl rfl rfl hdV_X9_finds ⟨Nat.le_of_ble_eq_true rfl, Nat.le_of_ble_eq_true rfl⟩) (zz_lt h0 (by decide)) (zz_c9 h0) rfl rfl hl.1 rfl (Nat.le_of_ble_eq_true rfl) dX9_ith_27 (fun r_4 M_5 => ?_)
    exact zz_iret C hr dX9_ith_30
  · refine zz_iload_n C dX9_ith_8 rfl (lv_at hl 2 rfl) ?_
    refine zz_callSi (As := [.int x2]) (rest := []) C (m_X9_isMinutes l E x2  M_2) (va_cwS 1 C.1.2.2.2.2 gX9_ith_X9_isMinutes rfl rfl rfl hdS_X9_isMinutes ⟨Nat.le_of_ble_eq_true rfl, Nat.le_of_ble_eq_true rfl⟩) rfl hl.1 rfl (Nat.le_of_ble_eq_true rfl) dX9_ith_9 (fun r_6 M_7 => ?_)
    refine zz_if_eq (tgt := 24) C dX9_ith_12 (by decide) (fun c_8 => ?_) (fun c_8 => ?_)
    · refine zz_aload_n C dX9_ith_24 rfl (lv_at hl 0 rfl) ?_
      refine zz_ldc (v := -1000000001) C (List.mem_of_getElem? (i := 1) rfl) dX9_ith_25 ?_
      refine zz_callVi (As := [.int (-1000000001 : Int32)]) (rest := []) C (m_X9_finds l E a0 (-1000000001 : Int32) h0 M_7) (cwV 1 C.1.2.2.2.2 gX9_ith_X9_finds rfl rfl rfl hdV_X9_finds ⟨Nat.le_of_ble_eq_true rfl, Nat.le_of_ble_eq_true rfl⟩) (zz_lt h0 (by decide)) (zz_c9 h0) rfl rfl hl.1 rfl (Nat.le_of_ble_eq_true rfl) dX9_ith_27 (fun r_9 M_10 => ?_)
      exact zz_iret C hr dX9_ith_30
    · refine zz_iload_n C dX9_ith_15 rfl (lv_at hl 3 rfl) ?_
      refine zz_iconst (v := 0) C dX9_ith_16 (by decide) ?_
      refine zz_iconst (v := 5) C dX9_ith_17 (by decide) ?_
      refine zz_callSi (As := [.int x3, .int (0 : Int32), .int (5 : Int32)]) (rest := []) C (m_X9_in l E x3 (0 : Int32) (5 : Int32)  M_7) (va_cwS 3 C.1.2.2.2.2 gX9_ith_X9_in rfl rfl rfl hdS_X9_in ⟨Nat.le_of_ble_eq_true rfl, Nat.le_of_ble_eq_true rfl⟩) rfl hl.1 rfl (Nat.le_of_ble_eq_true rfl) dX9_ith_18 (fun r_11 M_12 => ?_)
      refine zz_if_ne (tgt := 31) C dX9_ith_21 (by decide) (fun c_13 => ?_) (fun c_13 => ?_)
      · refine zz_aload_n C dX9_ith_24 rfl (lv_at hl 0 rfl) ?_
        refine zz_ldc (v := -1000000001) C (List.mem_of_getElem? (i := 1) rfl) dX9_ith_25 ?_
        refine zz_callVi (As := [.int (-1000000001 : Int32)]) (rest := []) C (m_X9_finds l E a0 (-1000000001 : Int32) h0 M_12) (cwV 1 C.1.2.2.2.2 gX9_ith_X9_finds rfl rfl rfl hdV_X9_finds ⟨Nat.le_of_ble_eq_true rfl, Nat.le_of_ble_eq_true rfl⟩) (zz_lt h0 (by decide)) (zz_c9 h0) rfl rfl hl.1 rfl (Nat.le_of_ble_eq_true rfl) dX9_ith_27 (fun r_19 M_20 => ?_)
        exact zz_iret C hr dX9_ith_30
      · refine zz_aload_n C dX9_ith_31 rfl (lv_at hl 0 rfl) ?_
        refine zz_iload_n C dX9_ith_32 rfl (lv_at hl 1 rfl) ?_
        refine zz_iload_n C dX9_ith_33 rfl (lv_at hl 2 rfl) ?_
        refine zz_callVi (As := [.int x1, .int x2]) (rest := []) C (m_X9_fewestOf l E a0 x1 x2 h0 M_12) (cwV 2 C.1.2.2.2.2 gX9_ith_X9_fewestOf rfl rfl rfl hdV_X9_fewestOf ⟨Nat.le_of_ble_eq_true rfl, Nat.le_of_ble_eq_true rfl⟩) (zz_lt h0 (by decide)) (zz_c9 h0) rfl rfl hl.1 rfl (Nat.le_of_ble_eq_true rfl) dX9_ith_34 (fun r_14 M_15 => ?_)
        refine zz_istored (lv' := [(4, .int r_14), (0, .ref (E.1 + a0)), (1, .int x1), (2, .int x2), (3, .int x3)]) C dX9_ith_37 hl (by decide) rfl (fun ls hl => ?_)
        refine zz_iload C dX9_ith_39 (lv_at hl 0 rfl) ?_
        refine zz_iload_n C dX9_ith_41 rfl (lv_at hl 4 rfl) ?_
        refine zz_icmp_gt (tgt := 54) C dX9_ith_42 (by decide) (fun c_16 => ?_) (fun c_16 => ?_)
        · refine zz_aload_n C dX9_ith_54 rfl (lv_at hl 1 rfl) ?_
          refine zz_get C (zz_lt h0 (by decide)) (zz_c9 h0) rfl in_X9_ith_X9 4 (by decide) (List.mem_of_getElem? (i := 3) rfl) rfl dX9_ith_55 ?_
          refine zz_iconst (v := 2) C dX9_ith_58 (by decide) ?_
          refine zz_iload C dX9_ith_59 (lv_at hl 0 rfl) ?_
          refine zz_iconst (v := 1) C dX9_ith_61 (by decide) ?_
          refine zz_isub C dX9_ith_62 ?_
          refine zz_iload_n C dX9_ith_63 rfl (lv_at hl 4 rfl) ?_
          refine zz_isub C dX9_ith_64 ?_
          refine zz_imul C dX9_ith_65 ?_
          refine zz_ishr C dX9_ith_66 ?_
          refine zz_iconst (v := 3) C dX9_ith_67 (by decide) ?_
          refine zz_iand C dX9_ith_68 ?_
          exact zz_iret C hr dX9_ith_69
        · refine zz_aload_n C dX9_ith_45 rfl (lv_at hl 1 rfl) ?_
          refine zz_ldc (v := -1000000004) C (List.mem_of_getElem? (i := 2) rfl) dX9_ith_46 ?_
          refine zz_callVi (As := [.int (-1000000004 : Int32)]) (rest := []) C (m_X9_finds l E a0 (-1000000004 : Int32) h0 M_15) (cwV 1 C.1.2.2.2.2 gX9_ith_X9_finds rfl rfl rfl hdV_X9_finds ⟨Nat.le_of_ble_eq_true rfl, Nat.le_of_ble_eq_true rfl⟩) (zz_lt h0 (by decide)) (zz_c9 h0) rfl rfl hl.1 rfl (Nat.le_of_ble_eq_true rfl) dX9_ith_48 (fun r_17 M_18 => ?_)
          refine zz_goto (tgt := 69) C dX9_ith_51 (by decide) ?_
          exact zz_iret C hr dX9_ith_69
-- X9_ways ('X9', 'ways', '(III)I')
def b_X9_ways_77 (k43 : Nat → Int32 → Int32 → Int32 → Int32 → Int32 → zz_M → Option (Int32 × zz_M)) (a0 : Nat) (x1 : Int32) (x2 : Int32) (x3 : Int32) (x5 : Int32) (st0 : Int32) (st1 : Int32) (M : zz_M) : Option (Int32 × zz_M) := zz_w (st1 + st0) (fun x4_22 => zz_bd (f_X9_putsBack a0 x1 M) (fun _ M_23 => zz_w (x5 + (1 : Int32)) (fun x5_24 => k43 a0 x1 x2 x3 x4_22 x5_24 M_23)))
set_option maxRecDepth 100000 in
set_option maxHeartbeats 4000000 in
theorem wb_X9_ways_77 {p : Program} {l : Launch} {e : Env} {s : State} {m : MethodId} {args : Array Value} {below : List Frame} {meth : Method} {c : Code} {E : zz_E} (C : zz_C E RX9 cX9_ways 6 wsX9_ways p s m args meth c) (hr : meth.sig.returnType = (some .int)) {k43 : Nat → Int32 → Int32 → Int32 → Int32 → Int32 → zz_M → Option (Int32 × zz_M)} (hk43 : ∀ (a0 : Nat) (x1 : Int32) (x2 : Int32) (x3 : Int32) (x4 : Int32) (x5 : Int32) (ha0 : zz_sh a0 = 9) (M : zz_M) (ls : Array Slot), lv_has ls 6 [(0, .ref (E.1 + a0)), (1, .int x1), (2, .int x2), (3, .int x3), (4, .int x4), (5, .int x5)] → zz_Z E p l e (zz_rm 6) s m args below meth c (zz_Q (zz_pi E) E below args s) (k43 a0 x1 x2 x3 x4 x5 M) M (F0 m 43 ls [])) : ∀ (a0 : Nat) (x1 : Int32) (x2 : Int32) (x3 : Int32) (x5 : Int32) (st0 : Int32) (st1 : Int32) (ha0 : zz_sh a0 = 9) (M : zz_M) (ls : Array Slot), lv_has ls 6 [(0, .ref (E.1 + a0)), (1, .int x1), (2, .int x2), (3, .int x3), (5, .int x5)] → zz_Z E p l e (zz_rm 6) s m args below meth c (zz_Q (zz_pi E) E below args s) (b_X9_ways_77 k43 a0 x1 x2 x3 x5 st0 st1 M) M (F0 m 77 ls [.int st0, .int st1]) := by
  intro a0 x1 x2 x3 x5 st0 st1 ha0 M ls hl
  unfold b_X9_ways_77
  refine zz_iadd C dX9_ways_77 ?_
  refine zz_istore C (fun x4_22 => [(4, .int x4_22), (0, .ref (E.1 + a0)), (1, .int x1), (2, .int x2), (3, .int x3), (5, .int x5)]) dX9_ways_78 hl (by decide) (fun _ => rfl) (fun x4_22 ls hl => ?_)
  refine zz_aload_n C dX9_ways_80 rfl (lv_at hl 1 rfl) ?_
  refine zz_iload_n C dX9_ways_81 rfl (lv_at hl 2 rfl) ?_
  refine zz_callVv (As := [.int x1]) (rest := []) C (m_X9_putsBack l E a0 x1 ha0 M) (cwV 1 C.1.2.2.2.2 gX9_ways_X9_putsBack rfl rfl rfl hdV_X9_putsBack ⟨Nat.le_of_ble_eq_true rfl, Nat.le_of_ble_eq_true rfl⟩) (zz_lt ha0 (by decide)) (zz_c9 ha0) rfl rfl hl.1 rfl (Nat.le_of_ble_eq_true rfl) dX9_ways_82 (fun _ M_23 => ?_)
  refine zz_iinc (k9 := 5) (d := 1) C (fun x5_24 => [(5, .int x5_24), (4, .int x4_22), (0, .ref (E.1 + a0)), (1, .int x1), (2, .int x2), (3, .int x3)]) dX9_ways_85 hl rfl (by decide) (by decide) (fun _ => rfl) (fun x5_24 ls hl => ?_)
  refine zz_goto (tgt := 43) C dX9_ways_88 (by decide) ?_
  exact hk43 a0 x1 x2 x3 x4_22 x5_24 ha0 M_23 ls (lv_sub hl [2, 3, 4, 5, 1, 0] rfl)
def b_X9_ways_43 : Nat → Nat → Int32 → Int32 → Int32 → Int32 → Int32 → zz_M → Option (Int32 × zz_M)
  | 0 => fun _ _ _ _ _ _ _ => none
  | n + 1 => fun a0 x1 x2 x3 x4 x5 M => (if ((1 : Int32) <<< (((2 : Int32) * x3) &&& (31 : Int32))) ≤ x5 then some (x4, M) else zz_bd (f_X9_dipRow a0 x1 x5 x3 M) (fun _ M_18 => zz_bd (f_X9_burnsOf a0 x1 M_18) (fun r_19 M_20 => (if r_19 = x2 then b_X9_ways_77 (b_X9_ways_43 n) a0 x1 x2 x3 x5 (1 : Int32) x4 M_20 else b_X9_ways_77 (b_X9_ways_43 n) a0 x1 x2 x3 x5 (0 : Int32) x4 M_20))))
set_option maxRecDepth 100000 in
set_option maxHeartbeats 4000000 in
theorem wb_X9_ways_43 {p : Program} {l : Launch} {e : Env} {s : State} {m : MethodId} {args : Array Value} {below : List Frame} {meth : Method} {c : Code} {E : zz_E} (C : zz_C E RX9 cX9_ways 6 wsX9_ways p s m args meth c) (hr : meth.sig.returnType = (some .int)) : ∀ (n : Nat) (a0 : Nat) (x1 : Int32) (x2 : Int32) (x3 : Int32) (x4 : Int32) (x5 : Int32) (ha0 : zz_sh a0 = 9) (M : zz_M) (ls : Array Slot), lv_has ls 6 [(0, .ref (E.1 + a0)), (1, .int x1), (2, .int x2), (3, .int x3), (4, .int x4), (5, .int x5)] → zz_Z E p l e (zz_rm 6) s m args below meth c (zz_Q (zz_pi E) E below args s) (b_X9_ways_43 n a0 x1 x2 x3 x4 x5 M) M (F0 m 43 ls []) := by
  intro n
  induction n with
  | zero => intro a0 x1 x2 x3 x4 x5 ha0 M ls hl; exact zz_none
  | succ n ih =>
    intro a0 x1 x2 x3 x4 x5 ha0 M ls hl
    rw [b_X9_ways_43]
    refine zz_iload C dX9_ways_43 (lv_at hl 5 rfl) ?_
    refine zz_iconst (v := 1) C dX9_ways_45 (by decide) ?_
    refine zz_iconst (v := 2) C dX9_ways_46 (by decide) ?_
    refine zz_iload_n C dX9_ways_47 rfl (lv_at hl 3 rfl) ?_
    refine zz_imul C dX9_ways_48 ?_
    refine zz_ishl C dX9_ways_49 ?_
    refine zz_icmp_ge (tgt := 91) C dX9_ways_50 (by decide) (fun c_17 => ?_) (fun c_17 => ?_)
    · refine zz_iload C dX9_ways_91 (lv_at hl 4 rfl) ?_
      exact zz_iret C hr dX9_ways_93
    · refine zz_aload_n C dX9_ways_53 rfl (lv_at hl 0 rfl) ?_
      refine zz_iload_n C dX9_ways_54 rfl (lv_at hl 1 rfl) ?_
      refine zz_iload C dX9_ways_55 (lv_at hl 5 rfl) ?_
      refine zz_iload_n C dX9_ways_57 rfl (lv_at hl 3 rfl) ?_
      refine zz_callVv (As := [.int x1, .int x5, .int x3]) (rest := []) C (m_X9_dipRow l E a0 x1 x5 x3 ha0 M) (cwV 3 C.1.2.2.2.2 gX9_ways_X9_dipRow rfl rfl rfl hdV_X9_dipRow ⟨Nat.le_of_ble_eq_true rfl, Nat.le_of_ble_eq_true rfl⟩) (zz_lt ha0 (by decide)) (zz_c9 ha0) rfl rfl hl.1 rfl (Nat.le_of_ble_eq_true rfl) dX9_ways_58 (fun _ M_18 => ?_)
      refine zz_iload C dX9_ways_61 (lv_at hl 4 rfl) ?_
      refine zz_aload_n C dX9_ways_63 rfl (lv_at hl 0 rfl) ?_
      refine zz_iload_n C dX9_ways_64 rfl (lv_at hl 1 rfl) ?_
      refine zz_callVi (As := [.int x1]) (rest := [.int x4]) C (m_X9_burnsOf l E a0 x1 ha0 M_18) (cwV 1 C.1.2.2.2.2 gX9_ways_X9_burnsOf rfl rfl rfl hdV_X9_burnsOf ⟨Nat.le_of_ble_eq_true rfl, Nat.le_of_ble_eq_true rfl⟩) (zz_lt ha0 (by decide)) (zz_c9 ha0) rfl rfl hl.1 rfl (Nat.le_of_ble_eq_true rfl) dX9_ways_65 (fun r_19 M_20 => ?_)
      refine zz_iload_n C dX9_ways_68 rfl (lv_at hl 2 rfl) ?_
      refine zz_icmp_ne (tgt := 76) C dX9_ways_69 (by decide) (fun c_21 => ?_) (fun c_21 => ?_)
      · refine zz_iconst (v := 1) C dX9_ways_72 (by decide) ?_
        refine zz_goto (tgt := 77) C dX9_ways_73 (by decide) ?_
        exact wb_X9_ways_77 C hr ih a0 x1 x2 x3 x5 (1 : Int32) x4 ha0 M_20 ls (lv_sub hl [0, 1, 2, 3, 5] rfl)
      · refine zz_iconst (v := 0) C dX9_ways_76 (by decide) ?_
        exact wb_X9_ways_77 C hr ih a0 x1 x2 x3 x5 (0 : Int32) x4 ha0 M_20 ls (lv_sub hl [0, 1, 2, 3, 5] rfl)
def f_X9_ways (a0 : Nat) (x1 : Int32) (x2 : Int32) (x3 : Int32) (M : zz_M) : Option (Int32 × zz_M) := zz_bd (f_X9_isCandle a0 x1 M) (fun r_1 M_2 => (if r_1 = 0 then zz_bd (f_X9_finds a0 (-1000000001 : Int32) M_2) (fun r_4 M_5 => some (r_4, M_5)) else zz_bd (f_X9_isMinutes x2 M_2) (fun r_6 M_7 => (if r_6 = 0 then zz_bd (f_X9_finds a0 (-1000000001 : Int32) M_7) (fun r_9 M_10 => some (r_9, M_10)) else zz_bd (f_X9_in x3 (0 : Int32) (6 : Int32) M_7) (fun r_11 M_12 => (if r_11 = 0 then zz_bd (f_X9_finds a0 (-1000000001 : Int32) M_12) (fun r_15 M_16 => some (r_15, M_16)) else zz_bd (f_X9_keeps a0 x1 M_12) (fun _ M_14 => b_X9_ways_43  zz_fuel a0 x1 x2 x3 (0 : Int32) (0 : Int32) M_14)))))))
set_option maxRecDepth 100000 in
set_option maxHeartbeats 4000000 in
theorem m_X9_ways (l : Launch) (E : zz_E) (a0 : Nat) (x1 : Int32) (x2 : Int32) (x3 : Int32) (h0 : zz_sh a0 = 9) (M : zz_M) : zz_Met (zz_pi E) l yX9_ways wsX9_ways 6 E [.ref (E.1 + a0), .int x1, .int x2, .int x3] M (f_X9_ways a0 x1 x2 x3 M) := by
  refine zz_met (cc := cX9_ways) (nL := 6) (ret := (some .int)) (by decide) rfl (Nat.le_of_ble_eq_true rfl) ?_
  intro p e s m below meth c C hr ls hl
  have C : zz_C E RX9 cX9_ways 6 wsX9_ways p s m [.ref (E.1 + a0), .int x1, .int x2, .int x3].toArray meth c := C
  have hl : lv_has ls 6 [(0, .ref (E.1 + a0)), (1, .int x1), (2, .int x2), (3, .int x3)] := hl
  unfold f_X9_ways
  refine zz_aload_n C dX9_ways_0 rfl (lv_at hl 0 rfl) ?_
  refine zz_iload_n C dX9_ways_1 rfl (lv_at hl 1 rfl) ?_
  refine zz_callVi (As := [.int x1]) (rest := []) C (m_X9_isCandle l E a0 x1 h0 M) (cwV 1 C.1.2.2.2.2 gX9_ways_X9_isCandle rfl rfl rfl hdV_X9_isCandle ⟨Nat.le_of_ble_eq_true rfl, Nat.le_of_ble_eq_true rfl⟩) (zz_lt h0 (by decide)) (zz_c9 h0) rfl rfl hl.1 rfl (Nat.le_of_ble_eq_true rfl) dX9_ways_2 (fun r_1 M_2 => ?_)
  refine zz_if_eq (tgt := 25) C dX9_ways_5 (by decide) (fun c_3 => ?_) (fun c_3 => ?_)
  · refine zz_aload_n C dX9_ways_25 rfl (lv_at hl 0 rfl) ?_
    refine zz_ldc (v := -1000000001) C (List.mem_of_getElem? (i := 1) rfl) dX9_ways_26 ?_
    refine zz_callVi (As := [.int (-1000000001 : Int32)]) (rest := []) C (m_X9_finds l E a0 (-1000000001 : Int32) h0 M_2) (cwV 1 C.1.2.2.2.2 gX9_ways_X9_finds rfl rfl rfl hdV_X9_finds ⟨Nat.le_of_ble_eq_true rfl, Nat.le_of_ble_eq_true rfl⟩) (zz_lt h0 (by decide)) (zz_c9 h0) rfl rfl hl.1 rfl (Nat.le_of_ble_eq_true rfl) dX9_ways_28 (fun r_4 M_5 => ?_)
    exact zz_iret C hr dX9_ways_31
  · refine zz_iload_n C dX9_ways_8 rfl (lv_at hl 2 rfl) ?_
    refine zz_callSi (As := [.int x2]) (rest := []) C (m_X9_isMinutes l E x2  M_2) (va_cwS 1 C.1.2.2.2.2 gX9_ways_X9_isMinutes rfl rfl rfl hdS_X9_isMinutes ⟨Nat.le_of_ble_eq_true rfl, Nat.le_of_ble_eq_true rfl⟩) rfl hl.1 rfl (Nat.le_of_ble_eq_true rfl) dX9_ways_9 (fun r_6 M_7 => ?_)
    refine zz_if_eq (tgt := 25) C dX9_ways_12 (by decide) (fun c_8 => ?_) (fun c_8 => ?_)
    · refine zz_aload_n C dX9_ways_25 rfl (lv_at hl 0 rfl) ?_
      refine zz_ldc (v := -1000000001) C (List.mem_of_getElem? (i := 1) rfl) dX9_ways_26 ?_
      refine zz_callVi (As := [.int (-1000000001 : Int32)]) (rest := []) C (m_X9_finds l E a0 (-1000000001 : Int32) h0 M_7) (cwV 1 C.1.2.2.2.2 gX9_ways_X9_finds rfl rfl rfl hdV_X9_finds ⟨Nat.le_of_ble_eq_true rfl, Nat.le_of_ble_eq_true rfl⟩) (zz_lt h0 (by decide)) (zz_c9 h0) rfl rfl hl.1 rfl (Nat.le_of_ble_eq_true rfl) dX9_ways_28 (fun r_9 M_10 => ?_)
      exact zz_iret C hr dX9_ways_31
    · refine zz_iload_n C dX9_ways_15 rfl (lv_at hl 3 rfl) ?_
      refine zz_iconst (v := 0) C dX9_ways_16 (by decide) ?_
      refine zz_bipush (v := 6) C dX9_ways_17 (by decide) ?_
      refine zz_callSi (As := [.int x3, .int (0 : Int32), .int (6 : Int32)]) (rest := []) C (m_X9_in l E x3 (0 : Int32) (6 : Int32)  M_7) (va_cwS 3 C.1.2.2.2.2 gX9_ways_X9_in rfl rfl rfl hdS_X9_in ⟨Nat.le_of_ble_eq_true rfl, Nat.le_of_ble_eq_true rfl⟩) rfl hl.1 rfl (Nat.le_of_ble_eq_true rfl) dX9_ways_19 (fun r_11 M_12 => ?_)
      refine zz_if_ne (tgt := 32) C dX9_ways_22 (by decide) (fun c_13 => ?_) (fun c_13 => ?_)
      · refine zz_aload_n C dX9_ways_25 rfl (lv_at hl 0 rfl) ?_
        refine zz_ldc (v := -1000000001) C (List.mem_of_getElem? (i := 1) rfl) dX9_ways_26 ?_
        refine zz_callVi (As := [.int (-1000000001 : Int32)]) (rest := []) C (m_X9_finds l E a0 (-1000000001 : Int32) h0 M_12) (cwV 1 C.1.2.2.2.2 gX9_ways_X9_finds rfl rfl rfl hdV_X9_finds ⟨Nat.le_of_ble_eq_true rfl, Nat.le_of_ble_eq_true rfl⟩) (zz_lt h0 (by decide)) (zz_c9 h0) rfl rfl hl.1 rfl (Nat.le_of_ble_eq_true rfl) dX9_ways_28 (fun r_15 M_16 => ?_)
        exact zz_iret C hr dX9_ways_31
      · refine zz_aload_n C dX9_ways_32 rfl (lv_at hl 0 rfl) ?_
        refine zz_iload_n C dX9_ways_33 rfl (lv_at hl 1 rfl) ?_
        refine zz_callVv (As := [.int x1]) (rest := []) C (m_X9_keeps l E a0 x1 h0 M_12) (cwV 1 C.1.2.2.2.2 gX9_ways_X9_keeps rfl rfl rfl hdV_X9_keeps ⟨Nat.le_of_ble_eq_true rfl, Nat.le_of_ble_eq_true rfl⟩) (zz_lt h0 (by decide)) (zz_c9 h0) rfl rfl hl.1 rfl (Nat.le_of_ble_eq_true rfl) dX9_ways_34 (fun _ M_14 => ?_)
        refine zz_iconst (v := 0) C dX9_ways_37 (by decide) ?_
        refine zz_istored (lv' := [(4, .int (0 : Int32)), (0, .ref (E.1 + a0)), (1, .int x1), (2, .int x2), (3, .int x3)]) C dX9_ways_38 hl (by decide) rfl (fun ls hl => ?_)
        refine zz_iconst (v := 0) C dX9_ways_40 (by decide) ?_
        refine zz_istored (lv' := [(5, .int (0 : Int32)), (4, .int (0 : Int32)), (0, .ref (E.1 + a0)), (1, .int x1), (2, .int x2), (3, .int x3)]) C dX9_ways_41 hl (by decide) rfl (fun ls hl => ?_)
        exact wb_X9_ways_43 C hr  zz_fuel a0 x1 x2 x3 (0 : Int32) (0 : Int32) h0 M_14 ls (lv_sub hl [2, 3, 4, 5, 1, 0] rfl)
-- X9_most ('X9', 'most', '(II)I')
def b_X9_most_72 (k35 : Nat → Int32 → Int32 → Int32 → Int32 → zz_M → Option (Int32 × zz_M)) (a0 : Nat) (x1 : Int32) (x2 : Int32) (x4 : Int32) (st0 : Int32) (M : zz_M) : Option (Int32 × zz_M) := zz_bd (f_X9_putsBack a0 x1 M) (fun _ M_17 => zz_w (x4 + (1 : Int32)) (fun x4_18 => k35 a0 x1 x2 st0 x4_18 M_17))
set_option maxRecDepth 100000 in
set_option maxHeartbeats 4000000 in
theorem wb_X9_most_72 {p : Program} {l : Launch} {e : Env} {s : State} {m : MethodId} {args : Array Value} {below : List Frame} {meth : Method} {c : Code} {E : zz_E} (C : zz_C E RX9 cX9_most 6 wsX9_most p s m args meth c) (hr : meth.sig.returnType = (some .int)) {k35 : Nat → Int32 → Int32 → Int32 → Int32 → zz_M → Option (Int32 × zz_M)} (hk35 : ∀ (a0 : Nat) (x1 : Int32) (x2 : Int32) (x3 : Int32) (x4 : Int32) (ha0 : zz_sh a0 = 9) (M : zz_M) (ls : Array Slot), lv_has ls 6 [(0, .ref (E.1 + a0)), (1, .int x1), (2, .int x2), (3, .int x3), (4, .int x4)] → zz_Z E p l e (zz_rm 6) s m args below meth c (zz_Q (zz_pi E) E below args s) (k35 a0 x1 x2 x3 x4 M) M (F0 m 35 ls [])) : ∀ (a0 : Nat) (x1 : Int32) (x2 : Int32) (x4 : Int32) (st0 : Int32) (ha0 : zz_sh a0 = 9) (M : zz_M) (ls : Array Slot), lv_has ls 6 [(0, .ref (E.1 + a0)), (1, .int x1), (2, .int x2), (4, .int x4)] → zz_Z E p l e (zz_rm 6) s m args below meth c (zz_Q (zz_pi E) E below args s) (b_X9_most_72 k35 a0 x1 x2 x4 st0 M) M (F0 m 72 ls [.int st0]) := by
  intro a0 x1 x2 x4 st0 ha0 M ls hl
  unfold b_X9_most_72
  refine zz_istored_n (lv' := [(3, .int st0), (0, .ref (E.1 + a0)), (1, .int x1), (2, .int x2), (4, .int x4)]) C dX9_most_72 rfl hl (by decide) rfl (fun ls hl => ?_)
  refine zz_aload_n C dX9_most_73 rfl (lv_at hl 1 rfl) ?_
  refine zz_iload_n C dX9_most_74 rfl (lv_at hl 2 rfl) ?_
  refine zz_callVv (As := [.int x1]) (rest := []) C (m_X9_putsBack l E a0 x1 ha0 M) (cwV 1 C.1.2.2.2.2 gX9_most_X9_putsBack rfl rfl rfl hdV_X9_putsBack ⟨Nat.le_of_ble_eq_true rfl, Nat.le_of_ble_eq_true rfl⟩) (zz_lt ha0 (by decide)) (zz_c9 ha0) rfl rfl hl.1 rfl (Nat.le_of_ble_eq_true rfl) dX9_most_75 (fun _ M_17 => ?_)
  refine zz_iinc (k9 := 4) (d := 1) C (fun x4_18 => [(4, .int x4_18), (3, .int st0), (0, .ref (E.1 + a0)), (1, .int x1), (2, .int x2)]) dX9_most_78 hl rfl (by decide) (by decide) (fun _ => rfl) (fun x4_18 ls hl => ?_)
  refine zz_goto (tgt := 35) C dX9_most_81 (by decide) ?_
  exact hk35 a0 x1 x2 st0 x4_18 ha0 M_17 ls (lv_sub hl [2, 3, 4, 1, 0] rfl)
def b_X9_most_35 : Nat → Nat → Int32 → Int32 → Int32 → Int32 → zz_M → Option (Int32 × zz_M)
  | 0 => fun _ _ _ _ _ _ => none
  | n + 1 => fun a0 x1 x2 x3 x4 M => (if ((1 : Int32) <<< (((2 : Int32) * x2) &&& (31 : Int32))) ≤ x4 then some (x3, M) else zz_bd (f_X9_dipRow a0 x1 x4 x2 M) (fun _ M_13 => zz_bd (f_X9_burnsOf a0 x1 M_13) (fun r_14 M_15 => (if r_14 ≤ x3 then b_X9_most_72 (b_X9_most_35 n) a0 x1 x2 x4 x3 M_15 else b_X9_most_72 (b_X9_most_35 n) a0 x1 x2 x4 r_14 M_15))))
set_option maxRecDepth 100000 in
set_option maxHeartbeats 4000000 in
theorem wb_X9_most_35 {p : Program} {l : Launch} {e : Env} {s : State} {m : MethodId} {args : Array Value} {below : List Frame} {meth : Method} {c : Code} {E : zz_E} (C : zz_C E RX9 cX9_most 6 wsX9_most p s m args meth c) (hr : meth.sig.returnType = (some .int)) : ∀ (n : Nat) (a0 : Nat) (x1 : Int32) (x2 : Int32) (x3 : Int32) (x4 : Int32) (ha0 : zz_sh a0 = 9) (M : zz_M) (ls : Array Slot), lv_has ls 6 [(0, .ref (E.1 + a0)), (1, .int x1), (2, .int x2), (3, .int x3), (4, .int x4)] → zz_Z E p l e (zz_rm 6) s m args below meth c (zz_Q (zz_pi E) E below args s) (b_X9_most_35 n a0 x1 x2 x3 x4 M) M (F0 m 35 ls []) := by
  intro n
  induction n with
  | zero => intro a0 x1 x2 x3 x4 ha0 M ls hl; exact zz_none
  | succ n ih =>
    intro a0 x1 x2 x3 x4 ha0 M ls hl
    rw [b_X9_most_35]
    refine zz_iload C dX9_most_35 (lv_at hl 4 rfl) ?_
    refine zz_iconst (v := 1) C dX9_most_37 (by decide) ?_
    refine zz_iconst (v := 2) C dX9_most_38 (by decide) ?_
    refine zz_iload_n C dX9_most_39 rfl (lv_at hl 2 rfl) ?_
    refine zz_imul C dX9_most_40 ?_
    refine zz_ishl C dX9_most_41 ?_
    refine zz_icmp_ge (tgt := 84) C dX9_most_42 (by decide) (fun c_12 => ?_) (fun c_12 => ?_)
    · refine zz_iload_n C dX9_most_84 rfl (lv_at hl 3 rfl) ?_
      exact zz_iret C hr dX9_most_85
    · refine zz_aload_n C dX9_most_45 rfl (lv_at hl 0 rfl) ?_
      refine zz_iload_n C dX9_most_46 rfl (lv_at hl 1 rfl) ?_
      refine zz_iload C dX9_most_47 (lv_at hl 4 rfl) ?_
      refine zz_iload_n C dX9_most_49 rfl (lv_at hl 2 rfl) ?_
      refine zz_callVv (As := [.int x1, .int x4, .int x2]) (rest := []) C (m_X9_dipRow l E a0 x1 x4 x2 ha0 M) (cwV 3 C.1.2.2.2.2 gX9_most_X9_dipRow rfl rfl rfl hdV_X9_dipRow ⟨Nat.le_of_ble_eq_true rfl, Nat.le_of_ble_eq_true rfl⟩) (zz_lt ha0 (by decide)) (zz_c9 ha0) rfl rfl hl.1 rfl (Nat.le_of_ble_eq_true rfl) dX9_most_50 (fun _ M_13 => ?_)
      refine zz_aload_n C dX9_most_53 rfl (lv_at hl 0 rfl) ?_
      refine zz_iload_n C dX9_most_54 rfl (lv_at hl 1 rfl) ?_
      refine zz_callVi (As := [.int x1]) (rest := []) C (m_X9_burnsOf l E a0 x1 ha0 M_13) (cwV 1 C.1.2.2.2.2 gX9_most_X9_burnsOf rfl rfl rfl hdV_X9_burnsOf ⟨Nat.le_of_ble_eq_true rfl, Nat.le_of_ble_eq_true rfl⟩) (zz_lt ha0 (by decide)) (zz_c9 ha0) rfl rfl hl.1 rfl (Nat.le_of_ble_eq_true rfl) dX9_most_55 (fun r_14 M_15 => ?_)
      refine zz_istored (lv' := [(5, .int r_14), (0, .ref (E.1 + a0)), (1, .int x1), (2, .int x2), (3, .int x3), (4, .int x4)]) C dX9_most_58 hl (by decide) rfl (fun ls hl => ?_)
      refine zz_iload C dX9_most_60 (lv_at hl 0 rfl) ?_
      refine zz_iload_n C dX9_most_62 rfl (lv_at hl 4 rfl) ?_
      refine zz_icmp_le (tgt := 71) C dX9_most_63 (by decide) (fun c_16 => ?_) (fun c_16 => ?_)
      · refine zz_iload_n C dX9_most_71 rfl (lv_at hl 4 rfl) ?_
        exact wb_X9_most_72 C hr ih a0 x1 x2 x4 x3 ha0 M_15 ls (lv_sub hl [1, 2, 3, 5] rfl)
      · refine zz_iload C dX9_most_66 (lv_at hl 0 rfl) ?_
        refine zz_goto (tgt := 72) C dX9_most_68 (by decide) ?_
        exact wb_X9_most_72 C hr ih a0 x1 x2 x4 r_14 ha0 M_15 ls (lv_sub hl [1, 2, 3, 5] rfl)
def f_X9_most (a0 : Nat) (x1 : Int32) (x2 : Int32) (M : zz_M) : Option (Int32 × zz_M) := zz_bd (f_X9_isCandle a0 x1 M) (fun r_1 M_2 => (if r_1 = 0 then zz_bd (f_X9_finds a0 (-1000000001 : Int32) M_2) (fun r_4 M_5 => some (r_4, M_5)) else zz_bd (f_X9_in x2 (0 : Int32) (6 : Int32) M_2) (fun r_6 M_7 => (if r_6 = 0 then zz_bd (f_X9_finds a0 (-1000000001 : Int32) M_7) (fun r_10 M_11 => some (r_10, M_11)) else zz_bd (f_X9_keeps a0 x1 M_7) (fun _ M_9 => b_X9_most_35  zz_fuel a0 x1 x2 (0 : Int32) (0 : Int32) M_9)))))
set_option maxRecDepth 100000 in
set_option maxHeartbeats 4000000 in
theorem m_X9_most (l : Launch) (E : zz_E) (a0 : Nat) (x1 : Int32) (x2 : Int32) (h0 : zz_sh a0 = 9) (M : zz_M) : zz_Met (zz_pi E) l yX9_most wsX9_most 6 E [.ref (E.1 + a0), .int x1, .int x2] M (f_X9_most a0 x1 x2 M) := by
  refine zz_met (cc := cX9_most) (nL := 6) (ret := (some .int)) (by decide) rfl (Nat.le_of_ble_eq_true rfl) ?_
  intro p e s m below meth c C hr ls hl
  have C : zz_C E RX9 cX9_most 6 wsX9_most p s m [.ref (E.1 + a0), .int x1, .int x2].toArray meth c := C
  have hl : lv_has ls 6 [(0, .ref (E.1 + a0)), (1, .int x1), (2, .int x2)] := hl
  unfold f_X9_most
  refine zz_aload_n C dX9_most_0 rfl (lv_at hl 0 rfl) ?_
  refine zz_iload_n C dX9_most_1 rfl (lv_at hl 1 rfl) ?_
  refine zz_callVi (As := [.int x1]) (rest := []) C (m_X9_isCandle l E a0 x1 h0 M) (cwV 1 C.1.2.2.2.2 gX9_most_X9_isCandle rfl rfl rfl hdV_X9_isCandle ⟨Nat.le_of_ble_eq_true rfl, Nat.le_of_ble_eq_true rfl⟩) (zz_lt h0 (by decide)) (zz_c9 h0) rfl rfl hl.1 rfl (Nat.le_of_ble_eq_true rfl) dX9_most_2 (fun r_1 M_2 => ?_)
  refine zz_if_eq (tgt := 18) C dX9_most_5 (by decide) (fun c_3 => ?_) (fun c_3 => ?_)
  · refine zz_aload_n C dX9_most_18 rfl (lv_at hl 0 rfl) ?_
    refine zz_ldc (v := -1000000001) C (List.mem_of_getElem? (i := 1) rfl) dX9_most_19 ?_
    refine zz_callVi (As := [.int (-1000000001 : Int32)]) (rest := []) C (m_X9_finds l E a0 (-1000000001 : Int32) h0 M_2) (cwV 1 C.1.2.2.2.2 gX9_most_X9_finds rfl rfl rfl hdV_X9_finds ⟨Nat.le_of_ble_eq_true rfl, Nat.le_of_ble_eq_true rfl⟩) (zz_lt h0 (by decide)) (zz_c9 h0) rfl rfl hl.1 rfl (Nat.le_of_ble_eq_true rfl) dX9_most_21 (fun r_4 M_5 => ?_)
    exact zz_iret C hr dX9_most_24
  · refine zz_iload_n C dX9_most_8 rfl (lv_at hl 2 rfl) ?_
    refine zz_iconst (v := 0) C dX9_most_9 (by decide) ?_
    refine zz_bipush (v := 6) C dX9_most_10 (by decide) ?_
    refine zz_callSi (As := [.int x2, .int (0 : Int32), .int (6 : Int32)]) (rest := []) C (m_X9_in l E x2 (0 : Int32) (6 : Int32)  M_2) (va_cwS 3 C.1.2.2.2.2 gX9_most_X9_in rfl rfl rfl hdS_X9_in ⟨Nat.le_of_ble_eq_true rfl, Nat.le_of_ble_eq_true rfl⟩) rfl hl.1 rfl (Nat.le_of_ble_eq_true rfl) dX9_most_12 (fun r_6 M_7 => ?_)
    refine zz_if_ne (tgt := 25) C dX9_most_15 (by decide) (fun c_8 => ?_) (fun c_8 => ?_)
    · refine zz_aload_n C dX9_most_18 rfl (lv_at hl 0 rfl) ?_
      refine zz_ldc (v := -1000000001) C (List.mem_of_getElem? (i := 1) rfl) dX9_most_19 ?_
      refine zz_callVi (As := [.int (-1000000001 : Int32)]) (rest := []) C (m_X9_finds l E a0 (-1000000001 : Int32) h0 M_7) (cwV 1 C.1.2.2.2.2 gX9_most_X9_finds rfl rfl rfl hdV_X9_finds ⟨Nat.le_of_ble_eq_true rfl, Nat.le_of_ble_eq_true rfl⟩) (zz_lt h0 (by decide)) (zz_c9 h0) rfl rfl hl.1 rfl (Nat.le_of_ble_eq_true rfl) dX9_most_21 (fun r_10 M_11 => ?_)
      exact zz_iret C hr dX9_most_24
    · refine zz_aload_n C dX9_most_25 rfl (lv_at hl 0 rfl) ?_
      refine zz_iload_n C dX9_most_26 rfl (lv_at hl 1 rfl) ?_
      refine zz_callVv (As := [.int x1]) (rest := []) C (m_X9_keeps l E a0 x1 h0 M_7) (cwV 1 C.1.2.2.2.2 gX9_most_X9_keeps rfl rfl rfl hdV_X9_keeps ⟨Nat.le_of_ble_eq_true rfl, Nat.le_of_ble_eq_true rfl⟩) (zz_lt h0 (by decide)) (zz_c9 h0) rfl rfl hl.1 rfl (Nat.le_of_ble_eq_true rfl) dX9_most_27 (fun _ M_9 => ?_)
      refine zz_iconst (v := 0) C dX9_most_30 (by decide) ?_
      refine zz_istored_n (lv' := [(3, .int (0 : Int32)), (0, .ref (E.1 + a0)), (1, .int x1), (2, .int x2)]) C dX9_most_31 rfl hl (by decide) rfl (fun ls hl => ?_)
      refine zz_iconst (v := 0) C dX9_most_32 (by decide) ?_
      refine zz_istored (lv' := [(4, .int (0 : Int32)), (3, .int (0 : Int32)), (0, .ref (E.1 + a0)), (1, .int x1), (2, .int x2)]) C dX9_most_33 hl (by decide) rfl (fun ls hl => ?_)
      exact wb_X9_most_35 C hr  zz_fuel a0 x1 x2 (0 : Int32) (0 : Int32) h0 M_9 ls (lv_sub hl [2, 3, 4, 1, 0] rfl)
-- X9_best ('X9', 'best', '(I)I')
def b_X9_best_85 (k44 : Nat → Int32 → Int32 → Int32 → Int32 → zz_M → Option (Int32 × zz_M)) (a0 : Nat) (x1 : Int32) (x2 : Int32) (x4 : Int32) (st0 : Int32) (M : zz_M) : Option (Int32 × zz_M) := zz_bd (f_X9_putsBack a0 x1 M) (fun _ M_17 => zz_w (x4 + (1 : Int32)) (fun x4_18 => k44 a0 x1 x2 st0 x4_18 M_17))
set_option maxRecDepth 100000 in
set_option maxHeartbeats 4000000 in
theorem wb_X9_best_85 {p : Program} {l : Launch} {e : Env} {s : State} {m : MethodId} {args : Array Value} {below : List Frame} {meth : Method} {c : Code} {E : zz_E} (C : zz_C E RX9 cX9_best 6 wsX9_best p s m args meth c) (hr : meth.sig.returnType = (some .int)) {k44 : Nat → Int32 → Int32 → Int32 → Int32 → zz_M → Option (Int32 × zz_M)} (hk44 : ∀ (a0 : Nat) (x1 : Int32) (x2 : Int32) (x3 : Int32) (x4 : Int32) (ha0 : zz_sh a0 = 9) (M : zz_M) (ls : Array Slot), lv_has ls 6 [(0, .ref (E.1 + a0)), (1, .int x1), (2, .int x2), (3, .int x3), (4, .int x4)] → zz_Z E p l e (zz_rm 6) s m args below meth c (zz_Q (zz_pi E) E below args s) (k44 a0 x1 x2 x3 x4 M) M (F0 m 44 ls [])) : ∀ (a0 : Nat) (x1 : Int32) (x2 : Int32) (x4 : Int32) (st0 : Int32) (ha0 : zz_sh a0 = 9) (M : zz_M) (ls : Array Slot), lv_has ls 6 [(0, .ref (E.1 + a0)), (1, .int x1), (2, .int x2), (4, .int x4)] → zz_Z E p l e (zz_rm 6) s m args below meth c (zz_Q (zz_pi E) E below args s) (b_X9_best_85 k44 a0 x1 x2 x4 st0 M) M (F0 m 85 ls [.int st0]) := by
  intro a0 x1 x2 x4 st0 ha0 M ls hl
  unfold b_X9_best_85
  refine zz_istored_n (lv' := [(3, .int st0), (0, .ref (E.1 + a0)), (1, .int x1), (2, .int x2), (4, .int x4)]) C dX9_best_85 rfl hl (by decide) rfl (fun ls hl => ?_)
  refine zz_aload_n C dX9_best_86 rfl (lv_at hl 1 rfl) ?_
  refine zz_iload_n C dX9_best_87 rfl (lv_at hl 2 rfl) ?_
  refine zz_callVv (As := [.int x1]) (rest := []) C (m_X9_putsBack l E a0 x1 ha0 M) (cwV 1 C.1.2.2.2.2 gX9_best_X9_putsBack rfl rfl rfl hdV_X9_putsBack ⟨Nat.le_of_ble_eq_true rfl, Nat.le_of_ble_eq_true rfl⟩) (zz_lt ha0 (by decide)) (zz_c9 ha0) rfl rfl hl.1 rfl (Nat.le_of_ble_eq_true rfl) dX9_best_88 (fun _ M_17 => ?_)
  refine zz_iinc (k9 := 4) (d := 1) C (fun x4_18 => [(4, .int x4_18), (3, .int st0), (0, .ref (E.1 + a0)), (1, .int x1), (2, .int x2)]) dX9_best_91 hl rfl (by decide) (by decide) (fun _ => rfl) (fun x4_18 ls hl => ?_)
  refine zz_goto (tgt := 44) C dX9_best_94 (by decide) ?_
  exact hk44 a0 x1 x2 st0 x4_18 ha0 M_17 ls (lv_sub hl [2, 3, 4, 1, 0] rfl)
def b_X9_best_72 (k44 : Nat → Int32 → Int32 → Int32 → Int32 → zz_M → Option (Int32 × zz_M)) (a0 : Nat) (x1 : Int32) (x3 : Int32) (x4 : Int32) (x5 : Int32) (st0 : Int32) (M : zz_M) : Option (Int32 × zz_M) := (if x5 ≤ x3 then b_X9_best_85 k44 a0 x1 st0 x4 x3 M else b_X9_best_85 k44 a0 x1 st0 x4 x5 M)
set_option maxRecDepth 100000 in
set_option maxHeartbeats 4000000 in
theorem wb_X9_best_72 {p : Program} {l : Launch} {e : Env} {s : State} {m : MethodId} {args : Array Value} {below : List Frame} {meth : Method} {c : Code} {E : zz_E} (C : zz_C E RX9 cX9_best 6 wsX9_best p s m args meth c) (hr : meth.sig.returnType = (some .int)) {k44 : Nat → Int32 → Int32 → Int32 → Int32 → zz_M → Option (Int32 × zz_M)} (hk44 : ∀ (a0 : Nat) (x1 : Int32) (x2 : Int32) (x3 : Int32) (x4 : Int32) (ha0 : zz_sh a0 = 9) (M : zz_M) (ls : Array Slot), lv_has ls 6 [(0, .ref (E.1 + a0)), (1, .int x1), (2, .int x2), (3, .int x3), (4, .int x4)] → zz_Z E p l e (zz_rm 6) s m args below meth c (zz_Q (zz_pi E) E below args s) (k44 a0 x1 x2 x3 x4 M) M (F0 m 44 ls [])) : ∀ (a0 : Nat) (x1 : Int32) (x3 : Int32) (x4 : Int32) (x5 : Int32) (st0 : Int32) (ha0 : zz_sh a0 = 9) (M : zz_M) (ls : Array Slot), lv_has ls 6 [(0, .ref (E.1 + a0)), (1, .int x1), (3, .int x3), (4, .int x4), (5, .int x5)] → zz_Z E p l e (zz_rm 6) s m args below meth c (zz_Q (zz_pi E) E below args s) (b_X9_best_72 k44 a0 x1 x3 x4 x5 st0 M) M (F0 m 72 ls [.int st0]) := by
  intro a0 x1 x3 x4 x5 st0 ha0 M ls hl
  unfold b_X9_best_72
  refine zz_istored_n (lv' := [(2, .int st0), (0, .ref (E.1 + a0)), (1, .int x1), (3, .int x3), (4, .int x4), (5, .int x5)]) C dX9_best_72 rfl hl (by decide) rfl (fun ls hl => ?_)
  refine zz_iload C dX9_best_73 (lv_at hl 5 rfl) ?_
  refine zz_iload_n C dX9_best_75 rfl (lv_at hl 3 rfl) ?_
  refine zz_icmp_le (tgt := 84) C dX9_best_76 (by decide) (fun c_16 => ?_) (fun c_16 => ?_)
  · refine zz_iload_n C dX9_best_84 rfl (lv_at hl 3 rfl) ?_
    exact wb_X9_best_85 C hr hk44 a0 x1 st0 x4 x3 ha0 M ls (lv_sub hl [1, 2, 0, 4] rfl)
  · refine zz_iload C dX9_best_79 (lv_at hl 5 rfl) ?_
    refine zz_goto (tgt := 85) C dX9_best_81 (by decide) ?_
    exact wb_X9_best_85 C hr hk44 a0 x1 st0 x4 x5 ha0 M ls (lv_sub hl [1, 2, 0, 4] rfl)
def b_X9_best_44 : Nat → Nat → Int32 → Int32 → Int32 → Int32 → zz_M → Option (Int32 × zz_M)
  | 0 => fun _ _ _ _ _ _ => none
  | n + 1 => fun a0 x1 x2 x3 x4 M => (if (4 : Int32) ≤ x4 then some (x2, M) else zz_bd (f_X9_burnsBehind a0 x1 x4 (1 : Int32) M) (fun r_13 M_14 => (if r_13 ≤ x3 then b_X9_best_72 (b_X9_best_44 n) a0 x1 x3 x4 r_13 x2 M_14 else b_X9_best_72 (b_X9_best_44 n) a0 x1 x3 x4 r_13 x4 M_14)))
set_option maxRecDepth 100000 in
set_option maxHeartbeats 4000000 in
theorem wb_X9_best_44 {p : Program} {l : Launch} {e : Env} {s : State} {m : MethodId} {args : Array Value} {below : List Frame} {meth : Method} {c : Code} {E : zz_E} (C : zz_C E RX9 cX9_best 6 wsX9_best p s m args meth c) (hr : meth.sig.returnType = (some .int)) : ∀ (n : Nat) (a0 : Nat) (x1 : Int32) (x2 : Int32) (x3 : Int32) (x4 : Int32) (ha0 : zz_sh a0 = 9) (M : zz_M) (ls : Array Slot), lv_has ls 6 [(0, .ref (E.1 + a0)), (1, .int x1), (2, .int x2), (3, .int x3), (4, .int x4)] → zz_Z E p l e (zz_rm 6) s m args below meth c (zz_Q (zz_pi E) E below args s) (b_X9_best_44 n a0 x1 x2 x3 x4 M) M (F0 m 44 ls []) := by
  intro n
  induction n with
  | zero => intro a0 x1 x2 x3 x4 ha0 M ls hl; exact zz_none
  | succ n ih =>
    intro a0 x1 x2 x3 x4 ha0 M ls hl
    rw [b_X9_best_44]
    refine zz_iload C dX9_best_44 (lv_at hl 4 rfl) ?_
    refine zz_iconst (v := 4) C dX9_best_46 (by decide) ?_
    refine zz_icmp_ge (tgt := 97) C dX9_best_47 (by decide) (fun c_12 => ?_) (fun c_12 => ?_)
    · refine zz_iload_n C dX9_best_97 rfl (lv_at hl 2 rfl) ?_
      exact zz_iret C hr dX9_best_98
    · refine zz_aload_n C dX9_best_50 rfl (lv_at hl 0 rfl) ?_
      refine zz_iload_n C dX9_best_51 rfl (lv_at hl 1 rfl) ?_
      refine zz_iload C dX9_best_52 (lv_at hl 4 rfl) ?_
      refine zz_iconst (v := 1) C dX9_best_54 (by decide) ?_
      refine zz_callVi (As := [.int x1, .int x4, .int (1 : Int32)]) (rest := []) C (m_X9_burnsBehind l E a0 x1 x4 (1 : Int32) ha0 M) (cwV 3 C.1.2.2.2.2 gX9_best_X9_burnsBehind rfl rfl rfl hdV_X9_burnsBehind ⟨Nat.le_of_ble_eq_true rfl, Nat.le_of_ble_eq_true rfl⟩) (zz_lt ha0 (by decide)) (zz_c9 ha0) rfl rfl hl.1 rfl (Nat.le_of_ble_eq_true rfl) dX9_best_55 (fun r_13 M_14 => ?_)
      refine zz_istored (lv' := [(5, .int r_13), (0, .ref (E.1 + a0)), (1, .int x1), (2, .int x2), (3, .int x3), (4, .int x4)]) C dX9_best_58 hl (by decide) rfl (fun ls hl => ?_)
      refine zz_iload C dX9_best_60 (lv_at hl 0 rfl) ?_
      refine zz_iload_n C dX9_best_62 rfl (lv_at hl 4 rfl) ?_
      refine zz_icmp_le (tgt := 71) C dX9_best_63 (by decide) (fun c_15 => ?_) (fun c_15 => ?_)
      · refine zz_iload_n C dX9_best_71 rfl (lv_at hl 3 rfl) ?_
        exact wb_X9_best_72 C hr ih a0 x1 x3 x4 r_13 x2 ha0 M_14 ls (lv_sub hl [1, 2, 4, 5, 0] rfl)
      · refine zz_iload C dX9_best_66 (lv_at hl 5 rfl) ?_
        refine zz_goto (tgt := 72) C dX9_best_68 (by decide) ?_
        exact wb_X9_best_72 C hr ih a0 x1 x3 x4 r_13 x4 ha0 M_14 ls (lv_sub hl [1, 2, 4, 5, 0] rfl)
def f_X9_best (a0 : Nat) (x1 : Int32) (M : zz_M) : Option (Int32 × zz_M) := zz_bd (f_X9_isCandle a0 x1 M) (fun r_1 M_2 => (if r_1 = 0 then zz_bd (f_X9_finds a0 (-1000000001 : Int32) M_2) (fun r_10 M_11 => some (r_10, M_11)) else zz_bd (f_X9_many a0 x1 M_2) (fun r_4 M_5 => (if r_4 = (40 : Int32) then zz_bd (f_X9_finds a0 (-1000000005 : Int32) M_5) (fun r_8 M_9 => some (r_8, M_9)) else zz_bd (f_X9_keeps a0 x1 M_5) (fun _ M_7 => b_X9_best_44  zz_fuel a0 x1 (0 : Int32) (-1 : Int32) (0 : Int32) M_7)))))
set_option maxRecDepth 100000 in
set_option maxHeartbeats 4000000 in
theorem m_X9_best (l : Launch) (E : zz_E) (a0 : Nat) (x1 : Int32) (h0 : zz_sh a0 = 9) (M : zz_M) : zz_Met (zz_pi E) l yX9_best wsX9_best 6 E [.ref (E.1 + a0), .int x1] M (f_X9_best a0 x1 M) := by
  refine zz_met (cc := cX9_best) (nL := 6) (ret := (some .int)) (by decide) rfl (Nat.le_of_ble_eq_true rfl) ?_
  intro p e s m below meth c C hr ls hl
  have C : zz_C E RX9 cX9_best 6 wsX9_best p s m [.ref (E.1 + a0), .int x1].toArray meth c := C
  have hl : lv_has ls 6 [(0, .ref (E.1 + a0)), (1, .int x1)] := hl
  unfold f_X9_best
  refine zz_aload_n C dX9_best_0 rfl (lv_at hl 0 rfl) ?_
  refine zz_iload_n C dX9_best_1 rfl (lv_at hl 1 rfl) ?_
  refine zz_callVi (As := [.int x1]) (rest := []) C (m_X9_isCandle l E a0 x1 h0 M) (cwV 1 C.1.2.2.2.2 gX9_best_X9_isCandle rfl rfl rfl hdV_X9_isCandle ⟨Nat.le_of_ble_eq_true rfl, Nat.le_of_ble_eq_true rfl⟩) (zz_lt h0 (by decide)) (zz_c9 h0) rfl rfl hl.1 rfl (Nat.le_of_ble_eq_true rfl) dX9_best_2 (fun r_1 M_2 => ?_)
  refine zz_if_ne (tgt := 15) C dX9_best_5 (by decide) (fun c_3 => ?_) (fun c_3 => ?_)
  · refine zz_aload_n C dX9_best_8 rfl (lv_at hl 0 rfl) ?_
    refine zz_ldc (v := -1000000001) C (List.mem_of_getElem? (i := 1) rfl) dX9_best_9 ?_
    refine zz_callVi (As := [.int (-1000000001 : Int32)]) (rest := []) C (m_X9_finds l E a0 (-1000000001 : Int32) h0 M_2) (cwV 1 C.1.2.2.2.2 gX9_best_X9_finds rfl rfl rfl hdV_X9_finds ⟨Nat.le_of_ble_eq_true rfl, Nat.le_of_ble_eq_true rfl⟩) (zz_lt h0 (by decide)) (zz_c9 h0) rfl rfl hl.1 rfl (Nat.le_of_ble_eq_true rfl) dX9_best_11 (fun r_10 M_11 => ?_)
    exact zz_iret C hr dX9_best_14
  · refine zz_aload_n C dX9_best_15 rfl (lv_at hl 0 rfl) ?_
    refine zz_iload_n C dX9_best_16 rfl (lv_at hl 1 rfl) ?_
    refine zz_callVi (As := [.int x1]) (rest := []) C (m_X9_many l E a0 x1 h0 M_2) (cwV 1 C.1.2.2.2.2 gX9_best_X9_many rfl rfl rfl hdV_X9_many ⟨Nat.le_of_ble_eq_true rfl, Nat.le_of_ble_eq_true rfl⟩) (zz_lt h0 (by decide)) (zz_c9 h0) rfl rfl hl.1 rfl (Nat.le_of_ble_eq_true rfl) dX9_best_17 (fun r_4 M_5 => ?_)
    refine zz_bipush (v := 40) C dX9_best_20 (by decide) ?_
    refine zz_icmp_ne (tgt := 32) C dX9_best_22 (by decide) (fun c_6 => ?_) (fun c_6 => ?_)
    · refine zz_aload_n C dX9_best_25 rfl (lv_at hl 0 rfl) ?_
      refine zz_ldc (v := -1000000005) C (List.mem_of_getElem? (i := 2) rfl) dX9_best_26 ?_
      refine zz_callVi (As := [.int (-1000000005 : Int32)]) (rest := []) C (m_X9_finds l E a0 (-1000000005 : Int32) h0 M_5) (cwV 1 C.1.2.2.2.2 gX9_best_X9_finds rfl rfl rfl hdV_X9_finds ⟨Nat.le_of_ble_eq_true rfl, Nat.le_of_ble_eq_true rfl⟩) (zz_lt h0 (by decide)) (zz_c9 h0) rfl rfl hl.1 rfl (Nat.le_of_ble_eq_true rfl) dX9_best_28 (fun r_8 M_9 => ?_)
      exact zz_iret C hr dX9_best_31
    · refine zz_aload_n C dX9_best_32 rfl (lv_at hl 0 rfl) ?_
      refine zz_iload_n C dX9_best_33 rfl (lv_at hl 1 rfl) ?_
      refine zz_callVv (As := [.int x1]) (rest := []) C (m_X9_keeps l E a0 x1 h0 M_5) (cwV 1 C.1.2.2.2.2 gX9_best_X9_keeps rfl rfl rfl hdV_X9_keeps ⟨Nat.le_of_ble_eq_true rfl, Nat.le_of_ble_eq_true rfl⟩) (zz_lt h0 (by decide)) (zz_c9 h0) rfl rfl hl.1 rfl (Nat.le_of_ble_eq_true rfl) dX9_best_34 (fun _ M_7 => ?_)
      refine zz_iconst (v := 0) C dX9_best_37 (by decide) ?_
      refine zz_istored_n (lv' := [(2, .int (0 : Int32)), (0, .ref (E.1 + a0)), (1, .int x1)]) C dX9_best_38 rfl hl (by decide) rfl (fun ls hl => ?_)
      refine zz_iconst (v := -1) C dX9_best_39 (by decide) ?_
      refine zz_istored_n (lv' := [(3, .int (-1 : Int32)), (2, .int (0 : Int32)), (0, .ref (E.1 + a0)), (1, .int x1)]) C dX9_best_40 rfl hl (by decide) rfl (fun ls hl => ?_)
      refine zz_iconst (v := 0) C dX9_best_41 (by decide) ?_
      refine zz_istored (lv' := [(4, .int (0 : Int32)), (3, .int (-1 : Int32)), (2, .int (0 : Int32)), (0, .ref (E.1 + a0)), (1, .int x1)]) C dX9_best_42 hl (by decide) rfl (fun ls hl => ?_)
      exact wb_X9_best_44 C hr  zz_fuel a0 x1 (0 : Int32) (-1 : Int32) (0 : Int32) h0 M_7 ls (lv_sub hl [3, 4, 2, 1, 0] rfl)
-- X9_kind ('X9', 'kind', '(III)I')
theorem in_X9_kind_X9 : ∀ w ∈ u_ws RX9 TX9 20, w ∈ wsX9_kind := fun _ h => List.mem_cons_of_mem _ (List.mem_append_right _ h)
def b_X9_kind_103 (k46 : Nat → Int32 → Int32 → Int32 → Int32 → Int32 → Int32 → zz_M → Option (Int32 × zz_M)) (a0 : Nat) (x1 : Int32) (x2 : Int32) (x3 : Int32) (x4 : Int32) (x6 : Int32) (st0 : Int32) (M : zz_M) : Option (Int32 × zz_M) := zz_bd (f_X9_putsBack a0 x1 M) (fun _ M_25 => zz_w (x6 + (1 : Int32)) (fun x6_26 => k46 a0 x1 x2 x3 x4 st0 x6_26 M_25))
set_option maxRecDepth 100000 in
set_option maxHeartbeats 4000000 in
theorem wb_X9_kind_103 {p : Program} {l : Launch} {e : Env} {s : State} {m : MethodId} {args : Array Value} {below : List Frame} {meth : Method} {c : Code} {E : zz_E} (C : zz_C E RX9 cX9_kind 8 wsX9_kind p s m args meth c) (hr : meth.sig.returnType = (some .int)) {k46 : Nat → Int32 → Int32 → Int32 → Int32 → Int32 → Int32 → zz_M → Option (Int32 × zz_M)} (hk46 : ∀ (a0 : Nat) (x1 : Int32) (x2 : Int32) (x3 : Int32) (x4 : Int32) (x5 : Int32) (x6 : Int32) (ha0 : zz_sh a0 = 9) (M : zz_M) (ls : Array Slot), lv_has ls 8 [(0, .ref (E.1 + a0)), (1, .int x1), (2, .int x2), (3, .int x3), (4, .int x4), (5, .int x5), (6, .int x6)] → zz_Z E p l e (zz_rm 6) s m args below meth c (zz_Q (zz_pi E) E below args s) (k46 a0 x1 x2 x3 x4 x5 x6 M) M (F0 m 46 ls [])) : ∀ (a0 : Nat) (x1 : Int32) (x2 : Int32) (x3 : Int32) (x4 : Int32) (x6 : Int32) (st0 : Int32) (ha0 : zz_sh a0 = 9) (M : zz_M) (ls : Array Slot), lv_has ls 8 [(0, .ref (E.1 + a0)), (1, .int x1), (2, .int x2), (3, .int x3), (4, .int x4), (6, .int x6)] → zz_Z E p l e (zz_rm 6) s m args below meth c (zz_Q (zz_pi E) E below args s) (b_X9_kind_103 k46 a0 x1 x2 x3 x4 x6 st0 M) M (F0 m 103 ls [.int st0]) := by
  intro a0 x1 x2 x3 x4 x6 st0 ha0 M ls hl
  unfold b_X9_kind_103
  refine zz_istored (lv' := [(5, .int st0), (0, .ref (E.1 + a0)), (1, .int x1), (2, .int x2), (3, .int x3), (4, .int x4), (6, .int x6)]) C dX9_kind_103 hl (by decide) rfl (fun ls hl => ?_)
  refine zz_aload_n C dX9_kind_105 rfl (lv_at hl 1 rfl) ?_
  refine zz_iload_n C dX9_kind_106 rfl (lv_at hl 2 rfl) ?_
  refine zz_callVv (As := [.int x1]) (rest := []) C (m_X9_putsBack l E a0 x1 ha0 M) (cwV 1 C.1.2.2.2.2 gX9_kind_X9_putsBack rfl rfl rfl hdV_X9_putsBack ⟨Nat.le_of_ble_eq_true rfl, Nat.le_of_ble_eq_true rfl⟩) (zz_lt ha0 (by decide)) (zz_c9 ha0) rfl rfl hl.1 rfl (Nat.le_of_ble_eq_true rfl) dX9_kind_107 (fun _ M_25 => ?_)
  refine zz_iinc (k9 := 6) (d := 1) C (fun x6_26 => [(6, .int x6_26), (5, .int st0), (0, .ref (E.1 + a0)), (1, .int x1), (2, .int x2), (3, .int x3), (4, .int x4)]) dX9_kind_110 hl rfl (by decide) (by decide) (fun _ => rfl) (fun x6_26 ls hl => ?_)
  refine zz_goto (tgt := 46) C dX9_kind_113 (by decide) ?_
  exact hk46 a0 x1 x2 x3 x4 st0 x6_26 ha0 M_25 ls (lv_sub hl [2, 3, 4, 5, 6, 1, 0] rfl)
def b_X9_kind_87 (k46 : Nat → Int32 → Int32 → Int32 → Int32 → Int32 → Int32 → zz_M → Option (Int32 × zz_M)) (a0 : Nat) (x1 : Int32) (x2 : Int32) (x3 : Int32) (x5 : Int32) (x6 : Int32) (x7 : Int32) (st0 : Int32) (M : zz_M) : Option (Int32 × zz_M) := (if x7 ≤ x5 then b_X9_kind_103 k46 a0 x1 x2 x3 st0 x6 x5 M else b_X9_kind_103 k46 a0 x1 x2 x3 st0 x6 x7 M)
set_option maxRecDepth 100000 in
set_option maxHeartbeats 4000000 in
theorem wb_X9_kind_87 {p : Program} {l : Launch} {e : Env} {s : State} {m : MethodId} {args : Array Value} {below : List Frame} {meth : Method} {c : Code} {E : zz_E} (C : zz_C E RX9 cX9_kind 8 wsX9_kind p s m args meth c) (hr : meth.sig.returnType = (some .int)) {k46 : Nat → Int32 → Int32 → Int32 → Int32 → Int32 → Int32 → zz_M → Option (Int32 × zz_M)} (hk46 : ∀ (a0 : Nat) (x1 : Int32) (x2 : Int32) (x3 : Int32) (x4 : Int32) (x5 : Int32) (x6 : Int32) (ha0 : zz_sh a0 = 9) (M : zz_M) (ls : Array Slot), lv_has ls 8 [(0, .ref (E.1 + a0)), (1, .int x1), (2, .int x2), (3, .int x3), (4, .int x4), (5, .int x5), (6, .int x6)] → zz_Z E p l e (zz_rm 6) s m args below meth c (zz_Q (zz_pi E) E below args s) (k46 a0 x1 x2 x3 x4 x5 x6 M) M (F0 m 46 ls [])) : ∀ (a0 : Nat) (x1 : Int32) (x2 : Int32) (x3 : Int32) (x5 : Int32) (x6 : Int32) (x7 : Int32) (st0 : Int32) (ha0 : zz_sh a0 = 9) (M : zz_M) (ls : Array Slot), lv_has ls 8 [(0, .ref (E.1 + a0)), (1, .int x1), (2, .int x2), (3, .int x3), (5, .int x5), (6, .int x6), (7, .int x7)] → zz_Z E p l e (zz_rm 6) s m args below meth c (zz_Q (zz_pi E) E below args s) (b_X9_kind_87 k46 a0 x1 x2 x3 x5 x6 x7 st0 M) M (F0 m 87 ls [.int st0]) := by
  intro a0 x1 x2 x3 x5 x6 x7 st0 ha0 M ls hl
  unfold b_X9_kind_87
  refine zz_istored (lv' := [(4, .int st0), (0, .ref (E.1 + a0)), (1, .int x1), (2, .int x2), (3, .int x3), (5, .int x5), (6, .int x6), (7, .int x7)]) C dX9_kind_87 hl (by decide) rfl (fun ls hl => ?_)
  refine zz_iload C dX9_kind_89 (lv_at hl 7 rfl) ?_
  refine zz_iload C dX9_kind_91 (lv_at hl 5 rfl) ?_
  refine zz_icmp_le (tgt := 101) C dX9_kind_93 (by decide) (fun c_24 => ?_) (fun c_24 => ?_)
  · refine zz_iload C dX9_kind_101 (lv_at hl 5 rfl) ?_
    exact wb_X9_kind_103 C hr hk46 a0 x1 x2 x3 st0 x6 x5 ha0 M ls (lv_sub hl [1, 2, 3, 4, 0, 6] rfl)
  · refine zz_iload C dX9_kind_96 (lv_at hl 7 rfl) ?_
    refine zz_goto (tgt := 103) C dX9_kind_98 (by decide) ?_
    exact wb_X9_kind_103 C hr hk46 a0 x1 x2 x3 st0 x6 x7 ha0 M ls (lv_sub hl [1, 2, 3, 4, 0, 6] rfl)
def b_X9_kind_46 : Nat → Nat → Int32 → Int32 → Int32 → Int32 → Int32 → Int32 → zz_M → Option (Int32 × zz_M)
  | 0 => fun _ _ _ _ _ _ _ _ => none
  | n + 1 => fun a0 x1 x2 x3 x4 x5 x6 M => (if (5 : Int32) < x6 then some (x4, M) else zz_bd (f_X9_at x1 (0 : Int32) M) (fun r_18 M_19 => (if zz_in r_18 440 = true then zz_w (zz_si M_19 130 (zz_n r_18) x6) (fun M_20 => zz_bd (f_X9_burnsBehind a0 x1 x2 x3 M_20) (fun r_21 M_22 => (if r_21 ≤ x5 then b_X9_kind_87 (b_X9_kind_46 n) a0 x1 x2 x3 x5 x6 r_21 x4 M_22 else b_X9_kind_87 (b_X9_kind_46 n) a0 x1 x2 x3 x5 x6 r_21 x6 M_22))) else none)))
set_option maxRecDepth 100000 in
set_option maxHeartbeats 4000000 in
theorem wb_X9_kind_46 {p : Program} {l : Launch} {e : Env} {s : State} {m : MethodId} {args : Array Value} {below : List Frame} {meth : Method} {c : Code} {E : zz_E} (C : zz_C E RX9 cX9_kind 8 wsX9_kind p s m args meth c) (hr : meth.sig.returnType = (some .int)) : ∀ (n : Nat) (a0 : Nat) (x1 : Int32) (x2 : Int32) (x3 : Int32) (x4 : Int32) (x5 : Int32) (x6 : Int32) (ha0 : zz_sh a0 = 9) (M : zz_M) (ls : Array Slot), lv_has ls 8 [(0, .ref (E.1 + a0)), (1, .int x1), (2, .int x2), (3, .int x3), (4, .int x4), (5, .int x5), (6, .int x6)] → zz_Z E p l e (zz_rm 6) s m args below meth c (zz_Q (zz_pi E) E below args s) (b_X9_kind_46 n a0 x1 x2 x3 x4 x5 x6 M) M (F0 m 46 ls []) := by
  intro n
  induction n with
  | zero => intro a0 x1 x2 x3 x4 x5 x6 ha0 M ls hl; exact zz_none
  | succ n ih =>
    intro a0 x1 x2 x3 x4 x5 x6 ha0 M ls hl
    rw [b_X9_kind_46]
    refine zz_iload C dX9_kind_46 (lv_at hl 6 rfl) ?_
    refine zz_iconst (v := 5) C dX9_kind_48 (by decide) ?_
    refine zz_icmp_gt (tgt := 116) C dX9_kind_49 (by decide) (fun c_17 => ?_) (fun c_17 => ?_)
    · refine zz_iload C dX9_kind_116 (lv_at hl 4 rfl) ?_
      exact zz_iret C hr dX9_kind_118
    · refine zz_aload_n C dX9_kind_52 rfl (lv_at hl 0 rfl) ?_
      refine zz_get C (zz_lt ha0 (by decide)) (zz_c9 ha0) rfl in_X9_kind_X9 0 (by decide) (List.mem_of_getElem? (i := 2) rfl) rfl dX9_kind_53 ?_
      refine zz_iload_n C dX9_kind_56 rfl (lv_at hl 1 rfl) ?_
      refine zz_iconst (v := 0) C dX9_kind_57 (by decide) ?_
      refine zz_callSi (As := [.int x1, .int (0 : Int32)]) (rest := [.ref (E.1 + 130)]) C (m_X9_at l E x1 (0 : Int32)  M) (va_cwS 2 C.1.2.2.2.2 gX9_kind_X9_at rfl rfl rfl hdS_X9_at ⟨Nat.le_of_ble_eq_true rfl, Nat.le_of_ble_eq_true rfl⟩) rfl hl.1 rfl (Nat.le_of_ble_eq_true rfl) dX9_kind_58 (fun r_18 M_19 => ?_)
      refine zz_iload C dX9_kind_61 (lv_at hl 6 rfl) ?_
      refine zz_iast C (zz_lt (zz_s9_0 ha0) (by decide)) (fun _ => zz_c13 (zz_s9_0 ha0)) dX9_kind_63 (fun M_20 => ?_)
      refine zz_aload_n C dX9_kind_64 rfl (lv_at hl 0 rfl) ?_
      refine zz_iload_n C dX9_kind_65 rfl (lv_at hl 1 rfl) ?_
      refine zz_iload_n C dX9_kind_66 rfl (lv_at hl 2 rfl) ?_
      refine zz_iload_n C dX9_kind_67 rfl (lv_at hl 3 rfl) ?_
      refine zz_callVi (As := [.int x1, .int x2, .int x3]) (rest := []) C (m_X9_burnsBehind l E a0 x1 x2 x3 ha0 M_20) (cwV 3 C.1.2.2.2.2 gX9_kind_X9_burnsBehind rfl rfl rfl hdV_X9_burnsBehind ⟨Nat.le_of_ble_eq_true rfl, Nat.le_of_ble_eq_true rfl⟩) (zz_lt ha0 (by decide)) (zz_c9 ha0) rfl rfl hl.1 rfl (Nat.le_of_ble_eq_true rfl) dX9_kind_68 (fun r_21 M_22 => ?_)
      refine zz_istored (lv' := [(7, .int r_21), (0, .ref (E.1 + a0)), (1, .int x1), (2, .int x2), (3, .int x3), (4, .int x4), (5, .int x5), (6, .int x6)]) C dX9_kind_71 hl (by decide) rfl (fun ls hl => ?_)
      refine zz_iload C dX9_kind_73 (lv_at hl 0 rfl) ?_
      refine zz_iload C dX9_kind_75 (lv_at hl 6 rfl) ?_
      refine zz_icmp_le (tgt := 85) C dX9_kind_77 (by decide) (fun c_23 => ?_) (fun c_23 => ?_)
      · refine zz_iload C dX9_kind_85 (lv_at hl 5 rfl) ?_
        exact wb_X9_kind_87 C hr ih a0 x1 x2 x3 x5 x6 r_21 x4 ha0 M_22 ls (lv_sub hl [1, 2, 3, 4, 6, 7, 0] rfl)
      · refine zz_iload C dX9_kind_80 (lv_at hl 7 rfl) ?_
        refine zz_goto (tgt := 87) C dX9_kind_82 (by decide) ?_
        exact wb_X9_kind_87 C hr ih a0 x1 x2 x3 x5 x6 r_21 x6 ha0 M_22 ls (lv_sub hl [1, 2, 3, 4, 6, 7, 0] rfl)
def f_X9_kind (a0 : Nat) (x1 : Int32) (x2 : Int32) (x3 : Int32) (M : zz_M) : Option (Int32 × zz_M) := zz_bd (f_X9_isCandle a0 x1 M) (fun r_1 M_2 => (if r_1 = 0 then zz_bd (f_X9_finds a0 (-1000000001 : Int32) M_2) (fun r_4 M_5 => some (r_4, M_5)) else zz_bd (f_X9_isVat x2 M_2) (fun r_6 M_7 => (if r_6 = 0 then zz_bd (f_X9_finds a0 (-1000000001 : Int32) M_7) (fun r_9 M_10 => some (r_9, M_10)) else zz_bd (f_X9_in x3 (0 : Int32) (40 : Int32) M_7) (fun r_11 M_12 => (if r_11 = 0 then zz_bd (f_X9_finds a0 (-1000000001 : Int32) M_12) (fun r_15 M_16 => some (r_15, M_16)) else zz_bd (f_X9_keeps a0 x1 M_12) (fun _ M_14 => b_X9_kind_46  zz_fuel a0 x1 x2 x3 (0 : Int32) (-1 : Int32) (0 : Int32) M_14)))))))
set_option maxRecDepth 100000 in
set_option maxHeartbeats 4000000 in
theorem m_X9_kind (l : Launch) (E : zz_E) (a0 : Nat) (x1 : Int32) (x2 : Int32) (x3 : Int32) (h0 : zz_sh a0 = 9) (M : zz_M) : zz_Met (zz_pi E) l yX9_kind wsX9_kind 6 E [.ref (E.1 + a0), .int x1, .int x2, .int x3] M (f_X9_kind a0 x1 x2 x3 M) := by
  refine zz_met (cc := cX9_kind) (nL := 8) (ret := (some .int)) (by decide) rfl (Nat.le_of_ble_eq_true rfl) ?_
  intro p e s m below meth c C hr ls hl
  have C : zz_C E RX9 cX9_kind 8 wsX9_kind p s m [.ref (E.1 + a0), .int x1, .int x2, .int x3].toArray meth c := C
  have hl : lv_has ls 8 [(0, .ref (E.1 + a0)), (1, .int x1), (2, .int x2), (3, .int x3)] := hl
  unfold f_X9_kind
  refine zz_aload_n C dX9_kind_0 rfl (lv_at hl 0 rfl) ?_
  refine zz_iload_n C dX9_kind_1 rfl (lv_at hl 1 rfl) ?_
  refine zz_callVi (As := [.int x1]) (rest := []) C (m_X9_isCandle l E a0 x1 h0 M) (cwV 1 C.1.2.2.2.2 gX9_kind_X9_isCandle rfl rfl rfl hdV_X9_isCandle ⟨Nat.le_of_ble_eq_true rfl, Nat.le_of_ble_eq_true rfl⟩) (zz_lt h0 (by decide)) (zz_c9 h0) rfl rfl hl.1 rfl (Nat.le_of_ble_eq_true rfl) dX9_kind_2 (fun r_1 M_2 => ?_)
  refine zz_if_eq (tgt := 25) C dX9_kind_5 (by decide) (fun c_3 => ?_) (fun c_3 => ?_)
  · refine zz_aload_n C dX9_kind_25 rfl (lv_at hl 0 rfl) ?_
    refine zz_ldc (v := -1000000001) C (List.mem_of_getElem? (i := 1) rfl) dX9_kind_26 ?_
    refine zz_callVi (As := [.int (-1000000001 : Int32)]) (rest := []) C (m_X9_finds l E a0 (-1000000001 : Int32) h0 M_2) (cwV 1 C.1.2.2.2.2 gX9_kind_X9_finds rfl rfl rfl hdV_X9_finds ⟨Nat.le_of_ble_eq_true rfl, Nat.le_of_ble_eq_true rfl⟩) (zz_lt h0 (by decide)) (zz_c9 h0) rfl rfl hl.1 rfl (Nat.le_of_ble_eq_true rfl) dX9_kind_28 (fun r_4 M_5 => ?_)
    exact zz_iret C hr dX9_kind_31
  · refine zz_iload_n C dX9_kind_8 rfl (lv_at hl 2 rfl) ?_
    refine zz_callSi (As := [.int x2]) (rest := []) C (m_X9_isVat l E x2  M_2) (va_cwS 1 C.1.2.2.2.2 gX9_kind_X9_isVat rfl rfl rfl hdS_X9_isVat ⟨Nat.le_of_ble_eq_true rfl, Nat.le_of_ble_eq_true rfl⟩) rfl hl.1 rfl (Nat.le_of_ble_eq_true rfl) dX9_kind_9 (fun r_6 M_7 => ?_)
    refine zz_if_eq (tgt := 25) C dX9_kind_12 (by decide) (fun c_8 => ?_) (fun c_8 => ?_)
    · refine zz_aload_n C dX9_kind_25 rfl (lv_at hl 0 rfl) ?_
      refine zz_ldc (v := -1000000001) C (List.mem_of_getElem? (i := 1) rfl) dX9_kind_26 ?_
      refine zz_callVi (As := [.int (-1000000001 : Int32)]) (rest := []) C (m_X9_finds l E a0 (-1000000001 : Int32) h0 M_7) (cwV 1 C.1.2.2.2.2 gX9_kind_X9_finds rfl rfl rfl hdV_X9_finds ⟨Nat.le_of_ble_eq_true rfl, Nat.le_of_ble_eq_true rfl⟩) (zz_lt h0 (by decide)) (zz_c9 h0) rfl rfl hl.1 rfl (Nat.le_of_ble_eq_true rfl) dX9_kind_28 (fun r_9 M_10 => ?_)
      exact zz_iret C hr dX9_kind_31
    · refine zz_iload_n C dX9_kind_15 rfl (lv_at hl 3 rfl) ?_
      refine zz_iconst (v := 0) C dX9_kind_16 (by decide) ?_
      refine zz_bipush (v := 40) C dX9_kind_17 (by decide) ?_
      refine zz_callSi (As := [.int x3, .int (0 : Int32), .int (40 : Int32)]) (rest := []) C (m_X9_in l E x3 (0 : Int32) (40 : Int32)  M_7) (va_cwS 3 C.1.2.2.2.2 gX9_kind_X9_in rfl rfl rfl hdS_X9_in ⟨Nat.le_of_ble_eq_true rfl, Nat.le_of_ble_eq_true rfl⟩) rfl hl.1 rfl (Nat.le_of_ble_eq_true rfl) dX9_kind_19 (fun r_11 M_12 => ?_)
      refine zz_if_ne (tgt := 32) C dX9_kind_22 (by decide) (fun c_13 => ?_) (fun c_13 => ?_)
      · refine zz_aload_n C dX9_kind_25 rfl (lv_at hl 0 rfl) ?_
        refine zz_ldc (v := -1000000001) C (List.mem_of_getElem? (i := 1) rfl) dX9_kind_26 ?_
        refine zz_callVi (As := [.int (-1000000001 : Int32)]) (rest := []) C (m_X9_finds l E a0 (-1000000001 : Int32) h0 M_12) (cwV 1 C.1.2.2.2.2 gX9_kind_X9_finds rfl rfl rfl hdV_X9_finds ⟨Nat.le_of_ble_eq_true rfl, Nat.le_of_ble_eq_true rfl⟩) (zz_lt h0 (by decide)) (zz_c9 h0) rfl rfl hl.1 rfl (Nat.le_of_ble_eq_true rfl) dX9_kind_28 (fun r_15 M_16 => ?_)
        exact zz_iret C hr dX9_kind_31
      · refine zz_aload_n C dX9_kind_32 rfl (lv_at hl 0 rfl) ?_
        refine zz_iload_n C dX9_kind_33 rfl (lv_at hl 1 rfl) ?_
        refine zz_callVv (As := [.int x1]) (rest := []) C (m_X9_keeps l E a0 x1 h0 M_12) (cwV 1 C.1.2.2.2.2 gX9_kind_X9_keeps rfl rfl rfl hdV_X9_keeps ⟨Nat.le_of_ble_eq_true rfl, Nat.le_of_ble_eq_true rfl⟩) (zz_lt h0 (by decide)) (zz_c9 h0) rfl rfl hl.1 rfl (Nat.le_of_ble_eq_true rfl) dX9_kind_34 (fun _ M_14 => ?_)
        refine zz_iconst (v := 0) C dX9_kind_37 (by decide) ?_
        refine zz_istored (lv' := [(4, .int (0 : Int32)), (0, .ref (E.1 + a0)), (1, .int x1), (2, .int x2), (3, .int x3)]) C dX9_kind_38 hl (by decide) rfl (fun ls hl => ?_)
        refine zz_iconst (v := -1) C dX9_kind_40 (by decide) ?_
        refine zz_istored (lv' := [(5, .int (-1 : Int32)), (4, .int (0 : Int32)), (0, .ref (E.1 + a0)), (1, .int x1), (2, .int x2), (3, .int x3)]) C dX9_kind_41 hl (by decide) rfl (fun ls hl => ?_)
        refine zz_iconst (v := 0) C dX9_kind_43 (by decide) ?_
        refine zz_istored (lv' := [(6, .int (0 : Int32)), (5, .int (-1 : Int32)), (4, .int (0 : Int32)), (0, .ref (E.1 + a0)), (1, .int x1), (2, .int x2), (3, .int x3)]) C dX9_kind_44 hl (by decide) rfl (fun ls hl => ?_)
        exact wb_X9_kind_46 C hr  zz_fuel a0 x1 x2 x3 (0 : Int32) (-1 : Int32) (0 : Int32) h0 M_14 ls (lv_sub hl [3, 4, 5, 6, 2, 1, 0] rfl)
-- X9_areWarm ('X9', 'areWarm', '(I)Z')
def b_X9_areWarm_28 (k4 : Nat → Int32 → Int32 → Int32 → zz_M → Option (Int32 × zz_M)) (a0 : Nat) (x1 : Int32) (x3 : Int32) (st0 : Int32) (M : zz_M) : Option (Int32 × zz_M) := zz_w (x3 + (1 : Int32)) (fun x3_6 => k4 a0 x1 st0 x3_6 M)
set_option maxRecDepth 100000 in
set_option maxHeartbeats 4000000 in
theorem wb_X9_areWarm_28 {p : Program} {l : Launch} {e : Env} {s : State} {m : MethodId} {args : Array Value} {below : List Frame} {meth : Method} {c : Code} {E : zz_E} (C : zz_C E RX9 cX9_areWarm 4 wsX9_areWarm p s m args meth c) (hr : meth.sig.returnType = (some .boolean)) {k4 : Nat → Int32 → Int32 → Int32 → zz_M → Option (Int32 × zz_M)} (hk4 : ∀ (a0 : Nat) (x1 : Int32) (x2 : Int32) (x3 : Int32) (ha0 : zz_sh a0 = 9) (M : zz_M) (ls : Array Slot), lv_has ls 4 [(0, .ref (E.1 + a0)), (1, .int x1), (2, .int x2), (3, .int x3)] → zz_Z E p l e (zz_rm 2) s m args below meth c (zz_Q (zz_pi E) E below args s) (k4 a0 x1 x2 x3 M) M (F0 m 4 ls [])) : ∀ (a0 : Nat) (x1 : Int32) (x3 : Int32) (st0 : Int32) (ha0 : zz_sh a0 = 9) (M : zz_M) (ls : Array Slot), lv_has ls 4 [(0, .ref (E.1 + a0)), (1, .int x1), (3, .int x3)] → zz_Z E p l e (zz_rm 2) s m args below meth c (zz_Q (zz_pi E) E below args s) (b_X9_areWarm_28 k4 a0 x1 x3 st0 M) M (F0 m 28 ls [.int st0]) := by
  intro a0 x1 x3 st0 ha0 M ls hl
  unfold b_X9_areWarm_28
  refine zz_istored_n (lv' := [(2, .int st0), (0, .ref (E.1 + a0)), (1, .int x1), (3, .int x3)]) C dX9_areWarm_28 rfl hl (by decide) rfl (fun ls hl => ?_)
  refine zz_iinc (k9 := 3) (d := 1) C (fun x3_6 => [(3, .int x3_6), (2, .int st0), (0, .ref (E.1 + a0)), (1, .int x1)]) dX9_areWarm_29 hl rfl (by decide) (by decide) (fun _ => rfl) (fun x3_6 ls hl => ?_)
  refine zz_goto (tgt := 4) C dX9_areWarm_32 (by decide) ?_
  exact hk4 a0 x1 st0 x3_6 ha0 M ls (lv_sub hl [2, 3, 1, 0] rfl)
def b_X9_areWarm_27 (k4 : Nat → Int32 → Int32 → Int32 → zz_M → Option (Int32 × zz_M)) (a0 : Nat) (x1 : Int32) (x3 : Int32) (M : zz_M) : Option (Int32 × zz_M) := b_X9_areWarm_28 k4 a0 x1 x3 (0 : Int32) M
set_option maxRecDepth 100000 in
set_option maxHeartbeats 4000000 in
theorem wb_X9_areWarm_27 {p : Program} {l : Launch} {e : Env} {s : State} {m : MethodId} {args : Array Value} {below : List Frame} {meth : Method} {c : Code} {E : zz_E} (C : zz_C E RX9 cX9_areWarm 4 wsX9_areWarm p s m args meth c) (hr : meth.sig.returnType = (some .boolean)) {k4 : Nat → Int32 → Int32 → Int32 → zz_M → Option (Int32 × zz_M)} (hk4 : ∀ (a0 : Nat) (x1 : Int32) (x2 : Int32) (x3 : Int32) (ha0 : zz_sh a0 = 9) (M : zz_M) (ls : Array Slot), lv_has ls 4 [(0, .ref (E.1 + a0)), (1, .int x1), (2, .int x2), (3, .int x3)] → zz_Z E p l e (zz_rm 2) s m args below meth c (zz_Q (zz_pi E) E below args s) (k4 a0 x1 x2 x3 M) M (F0 m 4 ls [])) : ∀ (a0 : Nat) (x1 : Int32) (x3 : Int32) (ha0 : zz_sh a0 = 9) (M : zz_M) (ls : Array Slot), lv_has ls 4 [(0, .ref (E.1 + a0)), (1, .int x1), (3, .int x3)] → zz_Z E p l e (zz_rm 2) s m args below meth c (zz_Q (zz_pi E) E below args s) (b_X9_areWarm_27 k4 a0 x1 x3 M) M (F0 m 27 ls []) := by
  intro a0 x1 x3 ha0 M ls hl
  unfold b_X9_areWarm_27
  refine zz_iconst (v := 0) C dX9_areWarm_27 (by decide) ?_
  exact wb_X9_areWarm_28 C hr hk4 a0 x1 x3 (0 : Int32) ha0 M ls (lv_sub hl [0, 1, 2] rfl)
def b_X9_areWarm_4 : Nat → Nat → Int32 → Int32 → Int32 → zz_M → Option (Int32 × zz_M)
  | 0 => fun _ _ _ _ _ => none
  | n + 1 => fun a0 x1 x2 x3 M => (if (4 : Int32) ≤ x3 then (if zz_bit x2 = true then some (x2, M) else none) else (if x2 = 0 then b_X9_areWarm_27 (b_X9_areWarm_4 n) a0 x1 x3 M else zz_bd (f_X9_its a0 x3 (1 : Int32) M) (fun r_3 M_4 => (if r_3 < x1 then b_X9_areWarm_27 (b_X9_areWarm_4 n) a0 x1 x3 M_4 else b_X9_areWarm_28 (b_X9_areWarm_4 n) a0 x1 x3 (1 : Int32) M_4))))
set_option maxRecDepth 100000 in
set_option maxHeartbeats 4000000 in
theorem wb_X9_areWarm_4 {p : Program} {l : Launch} {e : Env} {s : State} {m : MethodId} {args : Array Value} {below : List Frame} {meth : Method} {c : Code} {E : zz_E} (C : zz_C E RX9 cX9_areWarm 4 wsX9_areWarm p s m args meth c) (hr : meth.sig.returnType = (some .boolean)) : ∀ (n : Nat) (a0 : Nat) (x1 : Int32) (x2 : Int32) (x3 : Int32) (ha0 : zz_sh a0 = 9) (M : zz_M) (ls : Array Slot), lv_has ls 4 [(0, .ref (E.1 + a0)), (1, .int x1), (2, .int x2), (3, .int x3)] → zz_Z E p l e (zz_rm 2) s m args below meth c (zz_Q (zz_pi E) E below args s) (b_X9_areWarm_4 n a0 x1 x2 x3 M) M (F0 m 4 ls []) := by
  intro n
  induction n with
  | zero => intro a0 x1 x2 x3 ha0 M ls hl; exact zz_none
  | succ n ih =>
    intro a0 x1 x2 x3 ha0 M ls hl
    rw [b_X9_areWarm_4]
    refine zz_iload_n C dX9_areWarm_4 rfl (lv_at hl 3 rfl) ?_
    refine zz_iconst (v := 4) C dX9_areWarm_5 (by decide) ?_
    refine zz_icmp_ge (tgt := 35) C dX9_areWarm_6 (by decide) (fun c_1 => ?_) (fun c_1 => ?_)
    · refine zz_iload_n C dX9_areWarm_35 rfl (lv_at hl 2 rfl) ?_
      exact zz_zret C hr dX9_areWarm_36
    · refine zz_iload_n C dX9_areWarm_9 rfl (lv_at hl 2 rfl) ?_
      refine zz_if_eq (tgt := 27) C dX9_areWarm_10 (by decide) (fun c_2 => ?_) (fun c_2 => ?_)
      · exact wb_X9_areWarm_27 C hr ih a0 x1 x3 ha0 M ls (lv_sub hl [0, 1, 3] rfl)
      · refine zz_aload_n C dX9_areWarm_13 rfl (lv_at hl 0 rfl) ?_
        refine zz_iload_n C dX9_areWarm_14 rfl (lv_at hl 3 rfl) ?_
        refine zz_iconst (v := 1) C dX9_areWarm_15 (by decide) ?_
        refine zz_callVi (As := [.int x3, .int (1 : Int32)]) (rest := []) C (m_X9_its l E a0 x3 (1 : Int32) ha0 M) (cwV 2 C.1.2.2.2.2 gX9_areWarm_X9_its rfl rfl rfl hdV_X9_its ⟨Nat.le_of_ble_eq_true rfl, Nat.le_of_ble_eq_true rfl⟩) (zz_lt ha0 (by decide)) (zz_c9 ha0) rfl rfl hl.1 rfl (Nat.le_of_ble_eq_true rfl) dX9_areWarm_16 (fun r_3 M_4 => ?_)
        refine zz_iload_n C dX9_areWarm_19 rfl (lv_at hl 1 rfl) ?_
        refine zz_icmp_lt (tgt := 27) C dX9_areWarm_20 (by decide) (fun c_5 => ?_) (fun c_5 => ?_)
        · exact wb_X9_areWarm_27 C hr ih a0 x1 x3 ha0 M_4 ls (lv_sub hl [0, 1, 3] rfl)
        · refine zz_iconst (v := 1) C dX9_areWarm_23 (by decide) ?_
          refine zz_goto (tgt := 28) C dX9_areWarm_24 (by decide) ?_
          exact wb_X9_areWarm_28 C hr ih a0 x1 x3 (1 : Int32) ha0 M_4 ls (lv_sub hl [0, 1, 3] rfl)
def f_X9_areWarm (a0 : Nat) (x1 : Int32) (M : zz_M) : Option (Int32 × zz_M) := b_X9_areWarm_4  zz_fuel a0 x1 (1 : Int32) (0 : Int32) M
set_option maxRecDepth 100000 in
set_option maxHeartbeats 4000000 in
theorem m_X9_areWarm (l : Launch) (E : zz_E) (a0 : Nat) (x1 : Int32) (h0 : zz_sh a0 = 9) (M : zz_M) : zz_Met (zz_pi E) l yX9_areWarm wsX9_areWarm 2 E [.ref (E.1 + a0), .int x1] M (f_X9_areWarm a0 x1 M) := by
  refine zz_met (cc := cX9_areWarm) (nL := 4) (ret := (some .boolean)) (by decide) rfl (Nat.le_of_ble_eq_true rfl) ?_
  intro p e s m below meth c C hr ls hl
  have C : zz_C E RX9 cX9_areWarm 4 wsX9_areWarm p s m [.ref (E.1 + a0), .int x1].toArray meth c := C
  have hl : lv_has ls 4 [(0, .ref (E.1 + a0)), (1, .int x1)] := hl
  unfold f_X9_areWarm
  refine zz_iconst (v := 1) C dX9_areWarm_0 (by decide) ?_
  refine zz_istored_n (lv' := [(2, .int (1 : Int32)), (0, .ref (E.1 + a0)), (1, .int x1)]) C dX9_areWarm_1 rfl hl (by decide) rfl (fun ls hl => ?_)
  refine zz_iconst (v := 0) C dX9_areWarm_2 (by decide) ?_
  refine zz_istored_n (lv' := [(3, .int (0 : Int32)), (2, .int (1 : Int32)), (0, .ref (E.1 + a0)), (1, .int x1)]) C dX9_areWarm_3 rfl hl (by decide) rfl (fun ls hl => ?_)
  exact wb_X9_areWarm_4 C hr  zz_fuel a0 x1 (1 : Int32) (0 : Int32) h0 M ls (lv_sub hl [2, 3, 1, 0] rfl)
-- X9_fires ('X9', 'fires', '(II)I')
theorem in_X9_fires_X9 : ∀ w ∈ u_ws RX9 TX9 20, w ∈ wsX9_fires := fun _ h => List.mem_cons_of_mem _ (List.mem_append_right _ h)
theorem hdV_X9_areWarm : yX9_areWarm.cls = RX9 ∧ yX9_areWarm.cls ≠ "java/lang/invoke/MethodHandle" ∧ yX9_areWarm.cls ≠ "java/lang/invoke/VarHandle" ∧ (parseMethodDescriptor yX9_areWarm.desc).map (fun d => d.parameters.length) = some 1 := by decide +kernel
def b_X9_fires_160 (k65 : Nat → Int32 → Int32 → Int32 → Int32 → Int32 → zz_M → Option (Int32 × zz_M)) (a0 : Nat) (x1 : Int32) (x2 : Int32) (x3 : Int32) (x5 : Int32) (st0 : Int32) (M : zz_M) : Option (Int32 × zz_M) := zz_bd (f_X9_moveAll a0 (0 : Int32) 132 M) (fun _ M_29 => zz_w (x5 + (1 : Int32)) (fun x5_30 => k65 a0 x1 x2 x3 st0 x5_30 M_29))
set_option maxRecDepth 100000 in
set_option maxHeartbeats 4000000 in
theorem wb_X9_fires_160 {p : Program} {l : Launch} {e : Env} {s : State} {m : MethodId} {args : Array Value} {below : List Frame} {meth : Method} {c : Code} {E : zz_E} (C : zz_C E RX9 cX9_fires 7 wsX9_fires p s m args meth c) (hr : meth.sig.returnType = (some .int)) {k65 : Nat → Int32 → Int32 → Int32 → Int32 → Int32 → zz_M → Option (Int32 × zz_M)} (hk65 : ∀ (a0 : Nat) (x1 : Int32) (x2 : Int32) (x3 : Int32) (x4 : Int32) (x5 : Int32) (ha0 : zz_sh a0 = 9) (M : zz_M) (ls : Array Slot), lv_has ls 7 [(0, .ref (E.1 + a0)), (1, .int x1), (2, .int x2), (3, .int x3), (4, .int x4), (5, .int x5)] → zz_Z E p l e (zz_rm 4) s m args below meth c (zz_Q (zz_pi E) E below args s) (k65 a0 x1 x2 x3 x4 x5 M) M (F0 m 65 ls [])) : ∀ (a0 : Nat) (x1 : Int32) (x2 : Int32) (x3 : Int32) (x5 : Int32) (st0 : Int32) (ha0 : zz_sh a0 = 9) (M : zz_M) (ls : Array Slot), lv_has ls 7 [(0, .ref (E.1 + a0)), (1, .int x1), (2, .int x2), (3, .int x3), (5, .int x5)] → zz_Z E p l e (zz_rm 4) s m args below meth c (zz_Q (zz_pi E) E below args s) (b_X9_fires_160 k65 a0 x1 x2 x3 x5 st0 M) M (F0 m 160 ls [.int st0]) := by
  intro a0 x1 x2 x3 x5 st0 ha0 M ls hl
  unfold b_X9_fires_160
  refine zz_istored (lv' := [(4, .int st0), (0, .ref (E.1 + a0)), (1, .int x1), (2, .int x2), (3, .int x3), (5, .int x5)]) C dX9_fires_160 hl (by decide) rfl (fun ls hl => ?_)
  refine zz_aload_n C dX9_fires_162 rfl (lv_at hl 1 rfl) ?_
  refine zz_iconst (v := 0) C dX9_fires_163 (by decide) ?_
  refine zz_aload_n C dX9_fires_164 rfl (lv_at hl 1 rfl) ?_
  refine zz_get C (zz_lt ha0 (by decide)) (zz_c9 ha0) rfl in_X9_fires_X9 2 (by decide) (List.mem_of_getElem? (i := 4) rfl) rfl dX9_fires_165 ?_
  refine zz_callVv (As := [.int (0 : Int32), .ref (E.1 + 132)]) (rest := []) C (m_X9_moveAll l E a0 (0 : Int32) 132 ha0 (zz_s9_2 ha0) M) (cwV 2 C.1.2.2.2.2 gX9_fires_X9_moveAll rfl rfl rfl hdV_X9_moveAll ⟨Nat.le_of_ble_eq_true rfl, Nat.le_of_ble_eq_true rfl⟩) (zz_lt ha0 (by decide)) (zz_c9 ha0) rfl rfl hl.1 rfl (Nat.le_of_ble_eq_true rfl) dX9_fires_168 (fun _ M_29 => ?_)
  refine zz_iinc (k9 := 5) (d := 1) C (fun x5_30 => [(5, .int x5_30), (4, .int st0), (0, .ref (E.1 + a0)), (1, .int x1), (2, .int x2), (3, .int x3)]) dX9_fires_171 hl rfl (by decide) (by decide) (fun _ => rfl) (fun x5_30 ls hl => ?_)
  refine zz_goto (tgt := 65) C dX9_fires_174 (by decide) ?_
  exact hk65 a0 x1 x2 x3 st0 x5_30 ha0 M_29 ls (lv_sub hl [2, 3, 4, 5, 1, 0] rfl)
def b_X9_fires_143 (k65 : Nat → Int32 → Int32 → Int32 → Int32 → Int32 → zz_M → Option (Int32 × zz_M)) (a0 : Nat) (x1 : Int32) (x2 : Int32) (x4 : Int32) (x5 : Int32) (x6 : Int32) (st0 : Int32) (M : zz_M) : Option (Int32 × zz_M) := (if x6 = 0 then b_X9_fires_160 k65 a0 x1 x2 st0 x5 x4 M else (if zz_in (1 : Int32) 440 = true then b_X9_fires_160 k65 a0 x1 x2 st0 x5 (zz_i M 130 (zz_n (1 : Int32))) M else none))
set_option maxRecDepth 100000 in
set_option maxHeartbeats 4000000 in
theorem wb_X9_fires_143 {p : Program} {l : Launch} {e : Env} {s : State} {m : MethodId} {args : Array Value} {below : List Frame} {meth : Method} {c : Code} {E : zz_E} (C : zz_C E RX9 cX9_fires 7 wsX9_fires p s m args meth c) (hr : meth.sig.returnType = (some .int)) {k65 : Nat → Int32 → Int32 → Int32 → Int32 → Int32 → zz_M → Option (Int32 × zz_M)} (hk65 : ∀ (a0 : Nat) (x1 : Int32) (x2 : Int32) (x3 : Int32) (x4 : Int32) (x5 : Int32) (ha0 : zz_sh a0 = 9) (M : zz_M) (ls : Array Slot), lv_has ls 7 [(0, .ref (E.1 + a0)), (1, .int x1), (2, .int x2), (3, .int x3), (4, .int x4), (5, .int x5)] → zz_Z E p l e (zz_rm 4) s m args below meth c (zz_Q (zz_pi E) E below args s) (k65 a0 x1 x2 x3 x4 x5 M) M (F0 m 65 ls [])) : ∀ (a0 : Nat) (x1 : Int32) (x2 : Int32) (x4 : Int32) (x5 : Int32) (x6 : Int32) (st0 : Int32) (ha0 : zz_sh a0 = 9) (M : zz_M) (ls : Array Slot), lv_has ls 7 [(0, .ref (E.1 + a0)), (1, .int x1), (2, .int x2), (4, .int x4), (5, .int x5), (6, .int x6)] → zz_Z E p l e (zz_rm 4) s m args below meth c (zz_Q (zz_pi E) E below args s) (b_X9_fires_143 k65 a0 x1 x2 x4 x5 x6 st0 M) M (F0 m 143 ls [.int st0]) := by
  intro a0 x1 x2 x4 x5 x6 st0 ha0 M ls hl
  unfold b_X9_fires_143
  refine zz_istored_n (lv' := [(3, .int st0), (0, .ref (E.1 + a0)), (1, .int x1), (2, .int x2), (4, .int x4), (5, .int x5), (6, .int x6)]) C dX9_fires_143 rfl hl (by decide) rfl (fun ls hl => ?_)
  refine zz_iload C dX9_fires_144 (lv_at hl 6 rfl) ?_
  refine zz_if_eq (tgt := 158) C dX9_fires_146 (by decide) (fun c_28 => ?_) (fun c_28 => ?_)
  · refine zz_iload C dX9_fires_158 (lv_at hl 4 rfl) ?_
    exact wb_X9_fires_160 C hr hk65 a0 x1 x2 st0 x5 x4 ha0 M ls (lv_sub hl [1, 2, 3, 0, 5] rfl)
  · refine zz_aload_n C dX9_fires_149 rfl (lv_at hl 1 rfl) ?_
    refine zz_get C (zz_lt ha0 (by decide)) (zz_c9 ha0) rfl in_X9_fires_X9 0 (by decide) (List.mem_of_getElem? (i := 2) rfl) rfl dX9_fires_150 ?_
    refine zz_iconst (v := 1) C dX9_fires_153 (by decide) ?_
    refine zz_iald C (zz_lt (zz_s9_0 ha0) (by decide)) (zz_c13 (zz_s9_0 ha0)) dX9_fires_154 ?_
    refine zz_goto (tgt := 160) C dX9_fires_155 (by decide) ?_
    exact wb_X9_fires_160 C hr hk65 a0 x1 x2 st0 x5 (zz_i M 130 (zz_n (1 : Int32))) ha0 M ls (lv_sub hl [1, 2, 3, 0, 5] rfl)
def b_X9_fires_130 (k65 : Nat → Int32 → Int32 → Int32 → Int32 → Int32 → zz_M → Option (Int32 × zz_M)) (a0 : Nat) (x1 : Int32) (x2 : Int32) (x3 : Int32) (x4 : Int32) (x5 : Int32) (st0 : Int32) (M : zz_M) : Option (Int32 × zz_M) := (if st0 = 0 then b_X9_fires_143 k65 a0 x1 x2 x4 x5 st0 x3 M else b_X9_fires_143 k65 a0 x1 x2 x4 x5 st0 x5 M)
set_option maxRecDepth 100000 in
set_option maxHeartbeats 4000000 in
theorem wb_X9_fires_130 {p : Program} {l : Launch} {e : Env} {s : State} {m : MethodId} {args : Array Value} {below : List Frame} {meth : Method} {c : Code} {E : zz_E} (C : zz_C E RX9 cX9_fires 7 wsX9_fires p s m args meth c) (hr : meth.sig.returnType = (some .int)) {k65 : Nat → Int32 → Int32 → Int32 → Int32 → Int32 → zz_M → Option (Int32 × zz_M)} (hk65 : ∀ (a0 : Nat) (x1 : Int32) (x2 : Int32) (x3 : Int32) (x4 : Int32) (x5 : Int32) (ha0 : zz_sh a0 = 9) (M : zz_M) (ls : Array Slot), lv_has ls 7 [(0, .ref (E.1 + a0)), (1, .int x1), (2, .int x2), (3, .int x3), (4, .int x4), (5, .int x5)] → zz_Z E p l e (zz_rm 4) s m args below meth c (zz_Q (zz_pi E) E below args s) (k65 a0 x1 x2 x3 x4 x5 M) M (F0 m 65 ls [])) : ∀ (a0 : Nat) (x1 : Int32) (x2 : Int32) (x3 : Int32) (x4 : Int32) (x5 : Int32) (st0 : Int32) (ha0 : zz_sh a0 = 9) (M : zz_M) (ls : Array Slot), lv_has ls 7 [(0, .ref (E.1 + a0)), (1, .int x1), (2, .int x2), (3, .int x3), (4, .int x4), (5, .int x5)] → zz_Z E p l e (zz_rm 4) s m args below meth c (zz_Q (zz_pi E) E below args s) (b_X9_fires_130 k65 a0 x1 x2 x3 x4 x5 st0 M) M (F0 m 130 ls [.int st0]) := by
  intro a0 x1 x2 x3 x4 x5 st0 ha0 M ls hl
  unfold b_X9_fires_130
  refine zz_istored (lv' := [(6, .int st0), (0, .ref (E.1 + a0)), (1, .int x1), (2, .int x2), (3, .int x3), (4, .int x4), (5, .int x5)]) C dX9_fires_130 hl (by decide) rfl (fun ls hl => ?_)
  refine zz_iload C dX9_fires_132 (lv_at hl 0 rfl) ?_
  refine zz_if_eq (tgt := 142) C dX9_fires_134 (by decide) (fun c_27 => ?_) (fun c_27 => ?_)
  · refine zz_iload_n C dX9_fires_142 rfl (lv_at hl 4 rfl) ?_
    exact wb_X9_fires_143 C hr hk65 a0 x1 x2 x4 x5 st0 x3 ha0 M ls (lv_sub hl [1, 2, 3, 5, 6, 0] rfl)
  · refine zz_iload C dX9_fires_137 (lv_at hl 6 rfl) ?_
    refine zz_goto (tgt := 143) C dX9_fires_139 (by decide) ?_
    exact wb_X9_fires_143 C hr hk65 a0 x1 x2 x4 x5 st0 x5 ha0 M ls (lv_sub hl [1, 2, 3, 5, 6, 0] rfl)
def b_X9_fires_129 (k65 : Nat → Int32 → Int32 → Int32 → Int32 → Int32 → zz_M → Option (Int32 × zz_M)) (a0 : Nat) (x1 : Int32) (x2 : Int32) (x3 : Int32) (x4 : Int32) (x5 : Int32) (M : zz_M) : Option (Int32 × zz_M) := b_X9_fires_130 k65 a0 x1 x2 x3 x4 x5 (0 : Int32) M
set_option maxRecDepth 100000 in
set_option maxHeartbeats 4000000 in
theorem wb_X9_fires_129 {p : Program} {l : Launch} {e : Env} {s : State} {m : MethodId} {args : Array Value} {below : List Frame} {meth : Method} {c : Code} {E : zz_E} (C : zz_C E RX9 cX9_fires 7 wsX9_fires p s m args meth c) (hr : meth.sig.returnType = (some .int)) {k65 : Nat → Int32 → Int32 → Int32 → Int32 → Int32 → zz_M → Option (Int32 × zz_M)} (hk65 : ∀ (a0 : Nat) (x1 : Int32) (x2 : Int32) (x3 : Int32) (x4 : Int32) (x5 : Int32) (ha0 : zz_sh a0 = 9) (M : zz_M) (ls : Array Slot), lv_has ls 7 [(0, .ref (E.1 + a0)), (1, .int x1), (2, .int x2), (3, .int x3), (4, .int x4), (5, .int x5)] → zz_Z E p l e (zz_rm 4) s m args below meth c (zz_Q (zz_pi E) E below args s) (k65 a0 x1 x2 x3 x4 x5 M) M (F0 m 65 ls [])) : ∀ (a0 : Nat) (x1 : Int32) (x2 : Int32) (x3 : Int32) (x4 : Int32) (x5 : Int32) (ha0 : zz_sh a0 = 9) (M : zz_M) (ls : Array Slot), lv_has ls 7 [(0, .ref (E.1 + a0)), (1, .int x1), (2, .int x2), (3, .int x3), (4, .int x4), (5, .int x5)] → zz_Z E p l e (zz_rm 4) s m args below meth c (zz_Q (zz_pi E) E below args s) (b_X9_fires_129 k65 a0 x1 x2 x3 x4 x5 M) M (F0 m 129 ls []) := by
  intro a0 x1 x2 x3 x4 x5 ha0 M ls hl
  unfold b_X9_fires_129
  refine zz_iconst (v := 0) C dX9_fires_129 (by decide) ?_
  exact wb_X9_fires_130 C hr hk65 a0 x1 x2 x3 x4 x5 (0 : Int32) ha0 M ls (lv_sub hl [0, 1, 2, 3, 4, 5] rfl)
def b_X9_fires_75 (k65 : Nat → Int32 → Int32 → Int32 → Int32 → Int32 → zz_M → Option (Int32 × zz_M)) : Nat → Nat → Int32 → Int32 → Int32 → Int32 → Int32 → Int32 → zz_M → Option (Int32 × zz_M)
  | 0 => fun _ _ _ _ _ _ _ _ => none
  | n + 1 => fun a0 x1 x2 x3 x4 x5 x6 M => (if (4 : Int32) ≤ x6 then zz_bd (f_X9_go a0 x2 M) (fun _ M_20 => zz_bd (f_X9_areWarm a0 x1 M_20) (fun r_21 M_22 => (if r_21 = 0 then b_X9_fires_129 k65 a0 x1 x2 x3 x4 x5 M_22 else (if zz_in (1 : Int32) 440 = true then (if (zz_i M_22 130 (zz_n (1 : Int32))) ≤ x4 then b_X9_fires_129 k65 a0 x1 x2 x3 x4 x5 M_22 else b_X9_fires_130 k65 a0 x1 x2 x3 x4 x5 (1 : Int32) M_22) else none)))) else zz_bd (f_X9_setVat a0 x6 (3 : Int32) ((x5 >>> (x6 &&& (31 : Int32))) &&& (1 : Int32)) M) (fun _ M_25 => zz_w (x6 + (1 : Int32)) (fun x6_26 => (b_X9_fires_75 k65 n) a0 x1 x2 x3 x4 x5 x6_26 M_25)))
set_option maxRecDepth 100000 in
set_option maxHeartbeats 4000000 in
theorem wb_X9_fires_75 {p : Program} {l : Launch} {e : Env} {s : State} {m : MethodId} {args : Array Value} {below : List Frame} {meth : Method} {c : Code} {E : zz_E} (C : zz_C E RX9 cX9_fires 7 wsX9_fires p s m args meth c) (hr : meth.sig.returnType = (some .int)) {k65 : Nat → Int32 → Int32 → Int32 → Int32 → Int32 → zz_M → Option (Int32 × zz_M)} (hk65 : ∀ (a0 : Nat) (x1 : Int32) (x2 : Int32) (x3 : Int32) (x4 : Int32) (x5 : Int32) (ha0 : zz_sh a0 = 9) (M : zz_M) (ls : Array Slot), lv_has ls 7 [(0, .ref (E.1 + a0)), (1, .int x1), (2, .int x2), (3, .int x3), (4, .int x4), (5, .int x5)] → zz_Z E p l e (zz_rm 4) s m args below meth c (zz_Q (zz_pi E) E below args s) (k65 a0 x1 x2 x3 x4 x5 M) M (F0 m 65 ls [])) : ∀ (n : Nat) (a0 : Nat) (x1 : Int32) (x2 : Int32) (x3 : Int32) (x4 : Int32) (x5 : Int32) (x6 : Int32) (ha0 : zz_sh a0 = 9) (M : zz_M) (ls : Array Slot), lv_has ls 7 [(0, .ref (E.1 + a0)), (1, .int x1), (2, .int x2), (3, .int x3), (4, .int x4), (5, .int x5), (6, .int x6)] → zz_Z E p l e (zz_rm 4) s m args below meth c (zz_Q (zz_pi E) E below args s) (b_X9_fires_75 k65 n a0 x1 x2 x3 x4 x5 x6 M) M (F0 m 75 ls []) := by
  intro n
  induction n with
  | zero => intro a0 x1 x2 x3 x4 x5 x6 ha0 M ls hl; exact zz_none
  | succ n ih =>
    intro a0 x1 x2 x3 x4 x5 x6 ha0 M ls hl
    rw [b_X9_fires_75]
    refine zz_iload C dX9_fires_75 (lv_at hl 6 rfl) ?_
    refine zz_iconst (v := 4) C dX9_fires_77 (by decide) ?_
    refine zz_icmp_ge (tgt := 101) C dX9_fires_78 (by decide) (fun c_19 => ?_) (fun c_19 => ?_)
    · refine zz_aload_n C dX9_fires_101 rfl (lv_at hl 0 rfl) ?_
      refine zz_iload_n C dX9_fires_102 rfl (lv_at hl 2 rfl) ?_
      refine zz_callVv (As := [.int x2]) (rest := []) C (m_X9_go l E a0 x2 ha0 M) (cwV 1 C.1.2.2.2.2 gX9_fires_X9_go rfl rfl rfl hdV_X9_go ⟨Nat.le_of_ble_eq_true rfl, Nat.le_of_ble_eq_true rfl⟩) (zz_lt ha0 (by decide)) (zz_c9 ha0) rfl rfl hl.1 rfl (Nat.le_of_ble_eq_true rfl) dX9_fires_103 (fun _ M_20 => ?_)
      refine zz_aload_n C dX9_fires_106 rfl (lv_at hl 0 rfl) ?_
      refine zz_iload_n C dX9_fires_107 rfl (lv_at hl 1 rfl) ?_
      refine zz_callVi (As := [.int x1]) (rest := []) C (m_X9_areWarm l E a0 x1 ha0 M_20) (cwV 1 C.1.2.2.2.2 gX9_fires_X9_areWarm rfl rfl rfl hdV_X9_areWarm ⟨Nat.le_of_ble_eq_true rfl, Nat.le_of_ble_eq_true rfl⟩) (zz_lt ha0 (by decide)) (zz_c9 ha0) rfl rfl hl.1 rfl (Nat.le_of_ble_eq_true rfl) dX9_fires_108 (fun r_21 M_22 => ?_)
      refine zz_if_eq (tgt := 129) C dX9_fires_111 (by decide) (fun c_23 => ?_) (fun c_23 => ?_)
      · exact wb_X9_fires_129 C hr hk65 a0 x1 x2 x3 x4 x5 ha0 M_22 ls (lv_sub hl [0, 1, 2, 3, 4, 5] rfl)
      · refine zz_aload_n C dX9_fires_114 rfl (lv_at hl 0 rfl) ?_
        refine zz_get C (zz_lt ha0 (by decide)) (zz_c9 ha0) rfl in_X9_fires_X9 0 (by decide) (List.mem_of_getElem? (i := 2) rfl) rfl dX9_fires_115 ?_
        refine zz_iconst (v := 1) C dX9_fires_118 (by decide) ?_
        refine zz_iald C (zz_lt (zz_s9_0 ha0) (by decide)) (zz_c13 (zz_s9_0 ha0)) dX9_fires_119 ?_
        refine zz_iload C dX9_fires_120 (lv_at hl 4 rfl) ?_
        refine zz_icmp_le (tgt := 129) C dX9_fires_122 (by decide) (fun c_24 => ?_) (fun c_24 => ?_)
        · exact wb_X9_fires_129 C hr hk65 a0 x1 x2 x3 x4 x5 ha0 M_22 ls (lv_sub hl [0, 1, 2, 3, 4, 5] rfl)
        · refine zz_iconst (v := 1) C dX9_fires_125 (by decide) ?_
          refine zz_goto (tgt := 130) C dX9_fires_126 (by decide) ?_
          exact wb_X9_fires_130 C hr hk65 a0 x1 x2 x3 x4 x5 (1 : Int32) ha0 M_22 ls (lv_sub hl [0, 1, 2, 3, 4, 5] rfl)
    · refine zz_aload_n C dX9_fires_81 rfl (lv_at hl 0 rfl) ?_
      refine zz_iload C dX9_fires_82 (lv_at hl 6 rfl) ?_
      refine zz_iconst (v := 3) C dX9_fires_84 (by decide) ?_
      refine zz_iload C dX9_fires_85 (lv_at hl 5 rfl) ?_
      refine zz_iload C dX9_fires_87 (lv_at hl 6 rfl) ?_
      refine zz_ishr C dX9_fires_89 ?_
      refine zz_iconst (v := 1) C dX9_fires_90 (by decide) ?_
      refine zz_iand C dX9_fires_91 ?_
      refine zz_callVv (As := [.int x6, .int (3 : Int32), .int ((x5 >>> (x6 &&& (31 : Int32))) &&& (1 : Int32))]) (rest := []) C (m_X9_setVat l E a0 x6 (3 : Int32) ((x5 >>> (x6 &&& (31 : Int32))) &&& (1 : Int32)) ha0 M) (cwV 3 C.1.2.2.2.2 gX9_fires_X9_setVat rfl rfl rfl hdV_X9_setVat ⟨Nat.le_of_ble_eq_true rfl, Nat.le_of_ble_eq_true rfl⟩) (zz_lt ha0 (by decide)) (zz_c9 ha0) rfl rfl hl.1 rfl (Nat.le_of_ble_eq_true rfl) dX9_fires_92 (fun _ M_25 => ?_)
      refine zz_iinc (k9 := 6) (d := 1) C (fun x6_26 => [(6, .int x6_26), (0, .ref (E.1 + a0)), (1, .int x1), (2, .int x2), (3, .int x3), (4, .int x4), (5, .int x5)]) dX9_fires_95 hl rfl (by decide) (by decide) (fun _ => rfl) (fun x6_26 ls hl => ?_)
      refine zz_goto (tgt := 75) C dX9_fires_98 (by decide) ?_
      exact ih a0 x1 x2 x3 x4 x5 x6_26 ha0 M_25 ls (lv_sub hl [1, 2, 3, 4, 5, 6, 0] rfl)
def b_X9_fires_65 : Nat → Nat → Int32 → Int32 → Int32 → Int32 → Int32 → zz_M → Option (Int32 × zz_M)
  | 0 => fun _ _ _ _ _ _ _ => none
  | n + 1 => fun a0 x1 x2 x3 x4 x5 M => (if (16 : Int32) ≤ x5 then (if 0 ≤ x3 then some (x3, M) else zz_bd (f_X9_finds a0 (-1000000004 : Int32) M) (fun r_17 M_18 => some (r_17, M_18))) else b_X9_fires_75 (b_X9_fires_65 n) zz_fuel a0 x1 x2 x3 x4 x5 (0 : Int32) M)
set_option maxRecDepth 100000 in
set_option maxHeartbeats 4000000 in
theorem wb_X9_fires_65 {p : Program} {l : Launch} {e : Env} {s : State} {m : MethodId} {args : Array Value} {below : List Frame} {meth : Method} {c : Code} {E : zz_E} (C : zz_C E RX9 cX9_fires 7 wsX9_fires p s m args meth c) (hr : meth.sig.returnType = (some .int)) : ∀ (n : Nat) (a0 : Nat) (x1 : Int32) (x2 : Int32) (x3 : Int32) (x4 : Int32) (x5 : Int32) (ha0 : zz_sh a0 = 9) (M : zz_M) (ls : Array Slot), lv_has ls 7 [(0, .ref (E.1 + a0)), (1, .int x1), (2, .int x2), (3, .int x3), (4, .int x4), (5, .int x5)] → zz_Z E p l e (zz_rm 4) s m args below meth c (zz_Q (zz_pi E) E below args s) (b_X9_fires_65 n a0 x1 x2 x3 x4 x5 M) M (F0 m 65 ls []) := by
  intro n
  induction n with
  | zero => intro a0 x1 x2 x3 x4 x5 ha0 M ls hl; exact zz_none
  | succ n ih =>
    intro a0 x1 x2 x3 x4 x5 ha0 M ls hl
    rw [b_X9_fires_65]
    refine zz_iload C dX9_fires_65 (lv_at hl 5 rfl) ?_
    refine zz_bipush (v := 16) C dX9_fires_67 (by decide) ?_
    refine zz_icmp_ge (tgt := 177) C dX9_fires_69 (by decide) (fun c_15 => ?_) (fun c_15 => ?_)
    · refine zz_iload_n C dX9_fires_177 rfl (lv_at hl 3 rfl) ?_
      refine zz_if_ge (tgt := 190) C dX9_fires_178 (by decide) (fun c_16 => ?_) (fun c_16 => ?_)
      · refine zz_iload_n C dX9_fires_190 rfl (lv_at hl 3 rfl) ?_
        exact zz_iret C hr dX9_fires_191
      · refine zz_aload_n C dX9_fires_181 rfl (lv_at hl 0 rfl) ?_
        refine zz_ldc (v := -1000000004) C (List.mem_of_getElem? (i := 5) rfl) dX9_fires_182 ?_
        refine zz_callVi (As := [.int (-1000000004 : Int32)]) (rest := []) C (m_X9_finds l E a0 (-1000000004 : Int32) ha0 M) (cwV 1 C.1.2.2.2.2 gX9_fires_X9_finds rfl rfl rfl hdV_X9_finds ⟨Nat.le_of_ble_eq_true rfl, Nat.le_of_ble_eq_true rfl⟩) (zz_lt ha0 (by decide)) (zz_c9 ha0) rfl rfl hl.1 rfl (Nat.le_of_ble_eq_true rfl) dX9_fires_184 (fun r_17 M_18 => ?_)
        refine zz_goto (tgt := 191) C dX9_fires_187 (by decide) ?_
        exact zz_iret C hr dX9_fires_191
    · refine zz_iconst (v := 0) C dX9_fires_72 (by decide) ?_
      refine zz_istored (lv' := [(6, .int (0 : Int32)), (0, .ref (E.1 + a0)), (1, .int x1), (2, .int x2), (3, .int x3), (4, .int x4), (5, .int x5)]) C dX9_fires_73 hl (by decide) rfl (fun ls hl => ?_)
      exact wb_X9_fires_75 C hr ih zz_fuel a0 x1 x2 x3 x4 x5 (0 : Int32) ha0 M ls (lv_sub hl [1, 2, 3, 4, 5, 6, 0] rfl)
def f_X9_fires (a0 : Nat) (x1 : Int32) (x2 : Int32) (M : zz_M) : Option (Int32 × zz_M) := zz_bd (f_X9_in x1 (0 : Int32) (99 : Int32) M) (fun r_1 M_2 => (if r_1 = 0 then zz_bd (f_X9_finds a0 (-1000000001 : Int32) M_2) (fun r_4 M_5 => some (r_4, M_5)) else zz_bd (f_X9_in x2 (1 : Int32) (100 : Int32) M_2) (fun r_6 M_7 => (if r_6 = 0 then zz_bd (f_X9_finds a0 (-1000000001 : Int32) M_7) (fun r_13 M_14 => some (r_13, M_14)) else (if zz_in (3 : Int32) 440 = true then (if ((zz_i M_7 130 (zz_n (3 : Int32))) + x2) ≤ (9999 : Int32) then zz_bd (f_X9_moveAll a0 (1 : Int32) 132 M_7) (fun _ M_10 => b_X9_fires_65  zz_fuel a0 x1 x2 (-1 : Int32) (-1 : Int32) (0 : Int32) M_10) else zz_bd (f_X9_finds a0 (-1000000005 : Int32) M_7) (fun r_11 M_12 => some (r_11, M_12))) else none)))))
set_option maxRecDepth 100000 in
set_option maxHeartbeats 4000000 in
theorem m_X9_fires (l : Launch) (E : zz_E) (a0 : Nat) (x1 : Int32) (x2 : Int32) (h0 : zz_sh a0 = 9) (M : zz_M) : zz_Met (zz_pi E) l yX9_fires wsX9_fires 4 E [.ref (E.1 + a0), .int x1, .int x2] M (f_X9_fires a0 x1 x2 M) := by
  refine zz_met (cc := cX9_fires) (nL := 7) (ret := (some .int)) (by decide) rfl (Nat.le_of_ble_eq_true rfl) ?_
  intro p e s m below meth c C hr ls hl
  have C : zz_C E RX9 cX9_fires 7 wsX9_fires p s m [.ref (E.1 + a0), .int x1, .int x2].toArray meth c := C
  have hl : lv_has ls 7 [(0, .ref (E.1 + a0)), (1, .int x1), (2, .int x2)] := hl
  unfold f_X9_fires
  refine zz_iload_n C dX9_fires_0 rfl (lv_at hl 1 rfl) ?_
  refine zz_iconst (v := 0) C dX9_fires_1 (by decide) ?_
  refine zz_bipush (v := 99) C dX9_fires_2 (by decide) ?_
  refine zz_callSi (As := [.int x1, .int (0 : Int32), .int (99 : Int32)]) (rest := []) C (m_X9_in l E x1 (0 : Int32) (99 : Int32)  M) (va_cwS 3 C.1.2.2.2.2 gX9_fires_X9_in rfl rfl rfl hdS_X9_in ⟨Nat.le_of_ble_eq_true rfl, Nat.le_of_ble_eq_true rfl⟩) rfl hl.1 rfl (Nat.le_of_ble_eq_true rfl) dX9_fires_4 (fun r_1 M_2 => ?_)
  refine zz_if_eq (tgt := 20) C dX9_fires_7 (by decide) (fun c_3 => ?_) (fun c_3 => ?_)
  · refine zz_aload_n C dX9_fires_20 rfl (lv_at hl 0 rfl) ?_
    refine zz_ldc (v := -1000000001) C (List.mem_of_getElem? (i := 1) rfl) dX9_fires_21 ?_
    refine zz_callVi (As := [.int (-1000000001 : Int32)]) (rest := []) C (m_X9_finds l E a0 (-1000000001 : Int32) h0 M_2) (cwV 1 C.1.2.2.2.2 gX9_fires_X9_finds rfl rfl rfl hdV_X9_finds ⟨Nat.le_of_ble_eq_true rfl, Nat.le_of_ble_eq_true rfl⟩) (zz_lt h0 (by decide)) (zz_c9 h0) rfl rfl hl.1 rfl (Nat.le_of_ble_eq_true rfl) dX9_fires_23 (fun r_4 M_5 => ?_)
    exact zz_iret C hr dX9_fires_26
  · refine zz_iload_n C dX9_fires_10 rfl (lv_at hl 2 rfl) ?_
    refine zz_iconst (v := 1) C dX9_fires_11 (by decide) ?_
    refine zz_bipush (v := 100) C dX9_fires_12 (by decide) ?_
    refine zz_callSi (As := [.int x2, .int (1 : Int32), .int (100 : Int32)]) (rest := []) C (m_X9_in l E x2 (1 : Int32) (100 : Int32)  M_2) (va_cwS 3 C.1.2.2.2.2 gX9_fires_X9_in rfl rfl rfl hdS_X9_in ⟨Nat.le_of_ble_eq_true rfl, Nat.le_of_ble_eq_true rfl⟩) rfl hl.1 rfl (Nat.le_of_ble_eq_true rfl) dX9_fires_14 (fun r_6 M_7 => ?_)
    refine zz_if_ne (tgt := 27) C dX9_fires_17 (by decide) (fun c_8 => ?_) (fun c_8 => ?_)
    · refine zz_aload_n C dX9_fires_20 rfl (lv_at hl 0 rfl) ?_
      refine zz_ldc (v := -1000000001) C (List.mem_of_getElem? (i := 1) rfl) dX9_fires_21 ?_
      refine zz_callVi (As := [.int (-1000000001 : Int32)]) (rest := []) C (m_X9_finds l E a0 (-1000000001 : Int32) h0 M_7) (cwV 1 C.1.2.2.2.2 gX9_fires_X9_finds rfl rfl rfl hdV_X9_finds ⟨Nat.le_of_ble_eq_true rfl, Nat.le_of_ble_eq_true rfl⟩) (zz_lt h0 (by decide)) (zz_c9 h0) rfl rfl hl.1 rfl (Nat.le_of_ble_eq_true rfl) dX9_fires_23 (fun r_13 M_14 => ?_)
      exact zz_iret C hr dX9_fires_26
    · refine zz_aload_n C dX9_fires_27 rfl (lv_at hl 0 rfl) ?_
      refine zz_get C (zz_lt h0 (by decide)) (zz_c9 h0) rfl in_X9_fires_X9 0 (by decide) (List.mem_of_getElem? (i := 2) rfl) rfl dX9_fires_28 ?_
      refine zz_iconst (v := 3) C dX9_fires_31 (by decide) ?_
      refine zz_iald C (zz_lt (zz_s9_0 h0) (by decide)) (zz_c13 (zz_s9_0 h0)) dX9_fires_32 ?_
      refine zz_iload_n C dX9_fires_33 rfl (lv_at hl 2 rfl) ?_
      refine zz_iadd C dX9_fires_34 ?_
      refine zz_sipush (v := 9999) C dX9_fires_35 (by decide) ?_
      refine zz_icmp_le (tgt := 48) C dX9_fires_38 (by decide) (fun c_9 => ?_) (fun c_9 => ?_)
      · refine zz_aload_n C dX9_fires_48 rfl (lv_at hl 0 rfl) ?_
        refine zz_iconst (v := 1) C dX9_fires_49 (by decide) ?_
        refine zz_aload_n C dX9_fires_50 rfl (lv_at hl 0 rfl) ?_
        refine zz_get C (zz_lt h0 (by decide)) (zz_c9 h0) rfl in_X9_fires_X9 2 (by decide) (List.mem_of_getElem? (i := 4) rfl) rfl dX9_fires_51 ?_
        refine zz_callVv (As := [.int (1 : Int32), .ref (E.1 + 132)]) (rest := []) C (m_X9_moveAll l E a0 (1 : Int32) 132 h0 (zz_s9_2 h0) M_7) (cwV 2 C.1.2.2.2.2 gX9_fires_X9_moveAll rfl rfl rfl hdV_X9_moveAll ⟨Nat.le_of_ble_eq_true rfl, Nat.le_of_ble_eq_true rfl⟩) (zz_lt h0 (by decide)) (zz_c9 h0) rfl rfl hl.1 rfl (Nat.le_of_ble_eq_true rfl) dX9_fires_54 (fun _ M_10 => ?_)
        refine zz_iconst (v := -1) C dX9_fires_57 (by decide) ?_
        refine zz_istored_n (lv' := [(3, .int (-1 : Int32)), (0, .ref (E.1 + a0)), (1, .int x1), (2, .int x2)]) C dX9_fires_58 rfl hl (by decide) rfl (fun ls hl => ?_)
        refine zz_iconst (v := -1) C dX9_fires_59 (by decide) ?_
        refine zz_istored (lv' := [(4, .int (-1 : Int32)), (3, .int (-1 : Int32)), (0, .ref (E.1 + a0)), (1, .int x1), (2, .int x2)]) C dX9_fires_60 hl (by decide) rfl (fun ls hl => ?_)
        refine zz_iconst (v := 0) C dX9_fires_62 (by decide) ?_
        refine zz_istored (lv' := [(5, .int (0 : Int32)), (4, .int (-1 : Int32)), (3, .int (-1 : Int32)), (0, .ref (E.1 + a0)), (1, .int x1), (2, .int x2)]) C dX9_fires_63 hl (by decide) rfl (fun ls hl => ?_)
        exact wb_X9_fires_65 C hr  zz_fuel a0 x1 x2 (-1 : Int32) (-1 : Int32) (0 : Int32) h0 M_10 ls (lv_sub hl [3, 4, 5, 2, 1, 0] rfl)
      · refine zz_aload_n C dX9_fires_41 rfl (lv_at hl 0 rfl) ?_
        refine zz_ldc (v := -1000000005) C (List.mem_of_getElem? (i := 3) rfl) dX9_fires_42 ?_
        refine zz_callVi (As := [.int (-1000000005 : Int32)]) (rest := []) C (m_X9_finds l E a0 (-1000000005 : Int32) h0 M_7) (cwV 1 C.1.2.2.2.2 gX9_fires_X9_finds rfl rfl rfl hdV_X9_finds ⟨Nat.le_of_ble_eq_true rfl, Nat.le_of_ble_eq_true rfl⟩) (zz_lt h0 (by decide)) (zz_c9 h0) rfl rfl hl.1 rfl (Nat.le_of_ble_eq_true rfl) dX9_fires_44 (fun r_11 M_12 => ?_)
        exact zz_iret C hr dX9_fires_47
-- X9_enough ('X9', 'enough', '(I)I')
theorem in_X9_enough_X9 : ∀ w ∈ u_ws RX9 TX9 20, w ∈ wsX9_enough := fun _ h => List.mem_cons_of_mem _ (List.mem_append_right _ h)
def b_X9_enough_45 (k18 : Nat → Int32 → Int32 → Int32 → zz_M → Option (Int32 × zz_M)) (a0 : Nat) (x1 : Int32) (x3 : Int32) (st0 : Int32) (st1 : Int32) (M : zz_M) : Option (Int32 × zz_M) := zz_w (st1 ||| st0) (fun x2_10 => zz_w (x3 + (1 : Int32)) (fun x3_11 => k18 a0 x1 x2_10 x3_11 M))
set_option maxRecDepth 100000 in
set_option maxHeartbeats 4000000 in
theorem wb_X9_enough_45 {p : Program} {l : Launch} {e : Env} {s : State} {m : MethodId} {args : Array Value} {below : List Frame} {meth : Method} {c : Code} {E : zz_E} (C : zz_C E RX9 cX9_enough 4 wsX9_enough p s m args meth c) (hr : meth.sig.returnType = (some .int)) {k18 : Nat → Int32 → Int32 → Int32 → zz_M → Option (Int32 × zz_M)} (hk18 : ∀ (a0 : Nat) (x1 : Int32) (x2 : Int32) (x3 : Int32) (ha0 : zz_sh a0 = 9) (M : zz_M) (ls : Array Slot), lv_has ls 4 [(0, .ref (E.1 + a0)), (1, .int x1), (2, .int x2), (3, .int x3)] → zz_Z E p l e (zz_rm 5) s m args below meth c (zz_Q (zz_pi E) E below args s) (k18 a0 x1 x2 x3 M) M (F0 m 18 ls [])) : ∀ (a0 : Nat) (x1 : Int32) (x3 : Int32) (st0 : Int32) (st1 : Int32) (ha0 : zz_sh a0 = 9) (M : zz_M) (ls : Array Slot), lv_has ls 4 [(0, .ref (E.1 + a0)), (1, .int x1), (3, .int x3)] → zz_Z E p l e (zz_rm 5) s m args below meth c (zz_Q (zz_pi E) E below args s) (b_X9_enough_45 k18 a0 x1 x3 st0 st1 M) M (F0 m 45 ls [.int st0, .int st1]) := by
  intro a0 x1 x3 st0 st1 ha0 M ls hl
  unfold b_X9_enough_45
  refine zz_ior C dX9_enough_45 ?_
  refine zz_istore_n C (fun x2_10 => [(2, .int x2_10), (0, .ref (E.1 + a0)), (1, .int x1), (3, .int x3)]) dX9_enough_46 rfl hl (by decide) (fun _ => rfl) (fun x2_10 ls hl => ?_)
  refine zz_iinc (k9 := 3) (d := 1) C (fun x3_11 => [(3, .int x3_11), (2, .int x2_10), (0, .ref (E.1 + a0)), (1, .int x1)]) dX9_enough_47 hl rfl (by decide) (by decide) (fun _ => rfl) (fun x3_11 ls hl => ?_)
  refine zz_goto (tgt := 18) C dX9_enough_50 (by decide) ?_
  exact hk18 a0 x1 x2_10 x3_11 ha0 M ls (lv_sub hl [2, 3, 1, 0] rfl)
def b_X9_enough_18 : Nat → Nat → Int32 → Int32 → Int32 → zz_M → Option (Int32 × zz_M)
  | 0 => fun _ _ _ _ _ => none
  | n + 1 => fun a0 x1 x2 x3 M => (if zz_in (0 : Int32) 440 = true then (if (zz_i M 130 (zz_n (0 : Int32))) ≤ x3 then some (x2, M) else zz_bd (f_X9_burnsOf a0 x3 M) (fun r_7 M_8 => (if r_7 < x1 then b_X9_enough_45 (b_X9_enough_18 n) a0 x1 x3 (0 : Int32) x2 M_8 else b_X9_enough_45 (b_X9_enough_18 n) a0 x1 x3 ((1 : Int32) <<< (x3 &&& (31 : Int32))) x2 M_8))) else none)
set_option maxRecDepth 100000 in
set_option maxHeartbeats 4000000 in
theorem wb_X9_enough_18 {p : Program} {l : Launch} {e : Env} {s : State} {m : MethodId} {args : Array Value} {below : List Frame} {meth : Method} {c : Code} {E : zz_E} (C : zz_C E RX9 cX9_enough 4 wsX9_enough p s m args meth c) (hr : meth.sig.returnType = (some .int)) : ∀ (n : Nat) (a0 : Nat) (x1 : Int32) (x2 : Int32) (x3 : Int32) (ha0 : zz_sh a0 = 9) (M : zz_M) (ls : Array Slot), lv_has ls 4 [(0, .ref (E.1 + a0)), (1, .int x1), (2, .int x2), (3, .int x3)] → zz_Z E p l e (zz_rm 5) s m args below meth c (zz_Q (zz_pi E) E below args s) (b_X9_enough_18 n a0 x1 x2 x3 M) M (F0 m 18 ls []) := by
  intro n
  induction n with
  | zero => intro a0 x1 x2 x3 ha0 M ls hl; exact zz_none
  | succ n ih =>
    intro a0 x1 x2 x3 ha0 M ls hl
    rw [b_X9_enough_18]
    refine zz_iload_n C dX9_enough_18 rfl (lv_at hl 3 rfl) ?_
    refine zz_aload_n C dX9_enough_19 rfl (lv_at hl 0 rfl) ?_
    refine zz_get C (zz_lt ha0 (by decide)) (zz_c9 ha0) rfl in_X9_enough_X9 0 (by decide) (List.mem_of_getElem? (i := 2) rfl) rfl dX9_enough_20 ?_
    refine zz_iconst (v := 0) C dX9_enough_23 (by decide) ?_
    refine zz_iald C (zz_lt (zz_s9_0 ha0) (by decide)) (zz_c13 (zz_s9_0 ha0)) dX9_enough_24 ?_
    refine zz_icmp_ge (tgt := 53) C dX9_enough_25 (by decide) (fun c_6 => ?_) (fun c_6 => ?_)
    · refine zz_iload_n C dX9_enough_53 rfl (lv_at hl 2 rfl) ?_
      exact zz_iret C hr dX9_enough_54
    · refine zz_iload_n C dX9_enough_28 rfl (lv_at hl 2 rfl) ?_
      refine zz_aload_n C dX9_enough_29 rfl (lv_at hl 0 rfl) ?_
      refine zz_iload_n C dX9_enough_30 rfl (lv_at hl 3 rfl) ?_
      refine zz_callVi (As := [.int x3]) (rest := [.int x2]) C (m_X9_burnsOf l E a0 x3 ha0 M) (cwV 1 C.1.2.2.2.2 gX9_enough_X9_burnsOf rfl rfl rfl hdV_X9_burnsOf ⟨Nat.le_of_ble_eq_true rfl, Nat.le_of_ble_eq_true rfl⟩) (zz_lt ha0 (by decide)) (zz_c9 ha0) rfl rfl hl.1 rfl (Nat.le_of_ble_eq_true rfl) dX9_enough_31 (fun r_7 M_8 => ?_)
      refine zz_iload_n C dX9_enough_34 rfl (lv_at hl 1 rfl) ?_
      refine zz_icmp_lt (tgt := 44) C dX9_enough_35 (by decide) (fun c_9 => ?_) (fun c_9 => ?_)
      · refine zz_iconst (v := 0) C dX9_enough_44 (by decide) ?_
        exact wb_X9_enough_45 C hr ih a0 x1 x3 (0 : Int32) x2 ha0 M_8 ls (lv_sub hl [0, 1, 3] rfl)
      · refine zz_iconst (v := 1) C dX9_enough_38 (by decide) ?_
        refine zz_iload_n C dX9_enough_39 rfl (lv_at hl 3 rfl) ?_
        refine zz_ishl C dX9_enough_40 ?_
        refine zz_goto (tgt := 45) C dX9_enough_41 (by decide) ?_
        exact wb_X9_enough_45 C hr ih a0 x1 x3 ((1 : Int32) <<< (x3 &&& (31 : Int32))) x2 ha0 M_8 ls (lv_sub hl [0, 1, 3] rfl)
def f_X9_enough (a0 : Nat) (x1 : Int32) (M : zz_M) : Option (Int32 × zz_M) := zz_bd (f_X9_isMinutes x1 M) (fun r_1 M_2 => (if r_1 = 0 then zz_bd (f_X9_finds a0 (-1000000001 : Int32) M_2) (fun r_4 M_5 => some (r_4, M_5)) else b_X9_enough_18  zz_fuel a0 x1 (0 : Int32) (0 : Int32) M_2))
set_option maxRecDepth 100000 in
set_option maxHeartbeats 4000000 in
theorem m_X9_enough (l : Launch) (E : zz_E) (a0 : Nat) (x1 : Int32) (h0 : zz_sh a0 = 9) (M : zz_M) : zz_Met (zz_pi E) l yX9_enough wsX9_enough 5 E [.ref (E.1 + a0), .int x1] M (f_X9_enough a0 x1 M) := by
  refine zz_met (cc := cX9_enough) (nL := 4) (ret := (some .int)) (by decide) rfl (Nat.le_of_ble_eq_true rfl) ?_
  intro p e s m below meth c C hr ls hl
  have C : zz_C E RX9 cX9_enough 4 wsX9_enough p s m [.ref (E.1 + a0), .int x1].toArray meth c := C
  have hl : lv_has ls 4 [(0, .ref (E.1 + a0)), (1, .int x1)] := hl
  unfold f_X9_enough
  refine zz_iload_n C dX9_enough_0 rfl (lv_at hl 1 rfl) ?_
  refine zz_callSi (As := [.int x1]) (rest := []) C (m_X9_isMinutes l E x1  M) (va_cwS 1 C.1.2.2.2.2 gX9_enough_X9_isMinutes rfl rfl rfl hdS_X9_isMinutes ⟨Nat.le_of_ble_eq_true rfl, Nat.le_of_ble_eq_true rfl⟩) rfl hl.1 rfl (Nat.le_of_ble_eq_true rfl) dX9_enough_1 (fun r_1 M_2 => ?_)
  refine zz_if_ne (tgt := 14) C dX9_enough_4 (by decide) (fun c_3 => ?_) (fun c_3 => ?_)
  · refine zz_aload_n C dX9_enough_7 rfl (lv_at hl 0 rfl) ?_
    refine zz_ldc (v := -1000000001) C (List.mem_of_getElem? (i := 1) rfl) dX9_enough_8 ?_
    refine zz_callVi (As := [.int (-1000000001 : Int32)]) (rest := []) C (m_X9_finds l E a0 (-1000000001 : Int32) h0 M_2) (cwV 1 C.1.2.2.2.2 gX9_enough_X9_finds rfl rfl rfl hdV_X9_finds ⟨Nat.le_of_ble_eq_true rfl, Nat.le_of_ble_eq_true rfl⟩) (zz_lt h0 (by decide)) (zz_c9 h0) rfl rfl hl.1 rfl (Nat.le_of_ble_eq_true rfl) dX9_enough_10 (fun r_4 M_5 => ?_)
    exact zz_iret C hr dX9_enough_13
  · refine zz_iconst (v := 0) C dX9_enough_14 (by decide) ?_
    refine zz_istored_n (lv' := [(2, .int (0 : Int32)), (0, .ref (E.1 + a0)), (1, .int x1)]) C dX9_enough_15 rfl hl (by decide) rfl (fun ls hl => ?_)
    refine zz_iconst (v := 0) C dX9_enough_16 (by decide) ?_
    refine zz_istored_n (lv' := [(3, .int (0 : Int32)), (2, .int (0 : Int32)), (0, .ref (E.1 + a0)), (1, .int x1)]) C dX9_enough_17 rfl hl (by decide) rfl (fun ls hl => ?_)
    exact wb_X9_enough_18 C hr  zz_fuel a0 x1 (0 : Int32) (0 : Int32) h0 M_2 ls (lv_sub hl [2, 3, 1, 0] rfl)
