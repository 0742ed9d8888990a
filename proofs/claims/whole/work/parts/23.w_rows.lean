-- X2_judge ('X2', 'judge', '(II)V')
theorem in_X2_judge_X2 : ∀ w ∈ u_ws RX2 TX2 7, w ∈ wsX2_judge := fun _ h => List.mem_cons_of_mem _ (List.mem_append_right _ h)
def b_X2_judge_31 (a0 : Nat) (x1 : Int32) (x2 : Int32) (M : zz_M) : Option (Unit × zz_M) := (if 0 ≤ (zz_i M a0 6) then some ((), M) else (if x1 < (zz_i M a0 3) then some ((), M) else zz_w (zz_si M a0 6 x2) (fun M_7 => some ((), M_7))))
set_option maxRecDepth 100000 in
set_option maxHeartbeats 4000000 in
theorem wb_X2_judge_31 {p : Program} {l : Launch} {e : Env} {s : State} {m : MethodId} {args : Array Value} {below : List Frame} {meth : Method} {c : Code} {E : zz_E} (C : zz_C E RX2 cX2_judge 3 wsX2_judge p s m args meth c) (hr : meth.sig.returnType = none) : ∀ (a0 : Nat) (x1 : Int32) (x2 : Int32) (ha0 : zz_sh a0 = 2) (M : zz_M) (ls : Array Slot), lv_has ls 3 [(0, .ref (E.1 + a0)), (1, .int x1), (2, .int x2)] → zz_Z E p l e (zz_rm 1) s m args below meth c (zz_Q (zz_pv E) E below args s) (b_X2_judge_31 a0 x1 x2 M) M (F0 m 31 ls []) := by
  intro a0 x1 x2 ha0 M ls hl
  unfold b_X2_judge_31
  refine zz_aload_n C dX2_judge_31 rfl (lv_at hl 0 rfl) ?_
  refine zz_get C (zz_lt ha0 (by decide)) (zz_c2 ha0) rfl in_X2_judge_X2 6 (by decide) (List.mem_of_getElem? (i := 4) rfl) rfl dX2_judge_32 ?_
  refine zz_if_ge (tgt := 51) C dX2_judge_35 (by decide) (fun c_5 => ?_) (fun c_5 => ?_)
  · exact zz_vret C hr dX2_judge_51
  · refine zz_iload_n C dX2_judge_38 rfl (lv_at hl 1 rfl) ?_
    refine zz_aload_n C dX2_judge_39 rfl (lv_at hl 0 rfl) ?_
    refine zz_get C (zz_lt ha0 (by decide)) (zz_c2 ha0) rfl in_X2_judge_X2 3 (by decide) (List.mem_of_getElem? (i := 1) rfl) rfl dX2_judge_40 ?_
    refine zz_icmp_lt (tgt := 51) C dX2_judge_43 (by decide) (fun c_6 => ?_) (fun c_6 => ?_)
    · exact zz_vret C hr dX2_judge_51
    · refine zz_aload_n C dX2_judge_46 rfl (lv_at hl 0 rfl) ?_
      refine zz_iload_n C dX2_judge_47 rfl (lv_at hl 2 rfl) ?_
      refine zz_put (M1 := zz_si M a0 6 x2) C (zz_lt ha0 (by decide)) (zz_c2 ha0) rfl in_X2_judge_X2 tyX2 tyX2_ok nmX2 6 (by decide) (List.mem_of_getElem? (i := 4) rfl) rfl rfl rfl (Nat.le_of_ble_eq_true rfl) (zz_p2_6 ha0) zz_cell_si dX2_judge_48 (fun M_7 => ?_)
      exact zz_vret C hr dX2_judge_51
def b_X2_judge_18 (a0 : Nat) (x1 : Int32) (x2 : Int32) (M : zz_M) : Option (Unit × zz_M) := (if x1 ≤ (zz_i M a0 5) then b_X2_judge_31  a0 x1 x2 M else zz_w (zz_si M a0 5 x1) (fun M_4 => b_X2_judge_31  a0 x1 x2 M_4))
set_option maxRecDepth 100000 in
set_option maxHeartbeats 4000000 in
theorem wb_X2_judge_18 {p : Program} {l : Launch} {e : Env} {s : State} {m : MethodId} {args : Array Value} {below : List Frame} {meth : Method} {c : Code} {E : zz_E} (C : zz_C E RX2 cX2_judge 3 wsX2_judge p s m args meth c) (hr : meth.sig.returnType = none) : ∀ (a0 : Nat) (x1 : Int32) (x2 : Int32) (ha0 : zz_sh a0 = 2) (M : zz_M) (ls : Array Slot), lv_has ls 3 [(0, .ref (E.1 + a0)), (1, .int x1), (2, .int x2)] → zz_Z E p l e (zz_rm 1) s m args below meth c (zz_Q (zz_pv E) E below args s) (b_X2_judge_18 a0 x1 x2 M) M (F0 m 18 ls []) := by
  intro a0 x1 x2 ha0 M ls hl
  unfold b_X2_judge_18
  refine zz_iload_n C dX2_judge_18 rfl (lv_at hl 1 rfl) ?_
  refine zz_aload_n C dX2_judge_19 rfl (lv_at hl 0 rfl) ?_
  refine zz_get C (zz_lt ha0 (by decide)) (zz_c2 ha0) rfl in_X2_judge_X2 5 (by decide) (List.mem_of_getElem? (i := 3) rfl) rfl dX2_judge_20 ?_
  refine zz_icmp_le (tgt := 31) C dX2_judge_23 (by decide) (fun c_3 => ?_) (fun c_3 => ?_)
  · exact wb_X2_judge_31 C hr  a0 x1 x2 ha0 M ls (lv_sub hl [0, 1, 2] rfl)
  · refine zz_aload_n C dX2_judge_26 rfl (lv_at hl 0 rfl) ?_
    refine zz_iload_n C dX2_judge_27 rfl (lv_at hl 1 rfl) ?_
    refine zz_put (M1 := zz_si M a0 5 x1) C (zz_lt ha0 (by decide)) (zz_c2 ha0) rfl in_X2_judge_X2 tyX2 tyX2_ok nmX2 5 (by decide) (List.mem_of_getElem? (i := 3) rfl) rfl rfl rfl (Nat.le_of_ble_eq_true rfl) (zz_p2_5 ha0) zz_cell_si dX2_judge_28 (fun M_4 => ?_)
    exact wb_X2_judge_31 C hr  a0 x1 x2 ha0 M_4 ls (lv_sub hl [0, 1, 2] rfl)
def f_X2_judge (a0 : Nat) (x1 : Int32) (x2 : Int32) (M : zz_M) : Option (Unit × zz_M) := (if x1 = (zz_i M a0 3) then zz_w (zz_si M a0 4 ((zz_i M a0 4) + (1 : Int32))) (fun M_2 => b_X2_judge_18  a0 x1 x2 M_2) else b_X2_judge_18  a0 x1 x2 M)
set_option maxRecDepth 100000 in
set_option maxHeartbeats 4000000 in
theorem m_X2_judge (l : Launch) (E : zz_E) (a0 : Nat) (x1 : Int32) (x2 : Int32) (h0 : zz_sh a0 = 2) (M : zz_M) : zz_Met (zz_pv E) l yX2_judge wsX2_judge 1 E [.ref (E.1 + a0), .int x1, .int x2] M (f_X2_judge a0 x1 x2 M) := by
  refine zz_met (cc := cX2_judge) (nL := 3) (ret := none) (by decide) rfl (Nat.le_of_ble_eq_true rfl) ?_
  intro p e s m below meth c C hr ls hl
  have C : zz_C E RX2 cX2_judge 3 wsX2_judge p s m [.ref (E.1 + a0), .int x1, .int x2].toArray meth c := C
  have hl : lv_has ls 3 [(0, .ref (E.1 + a0)), (1, .int x1), (2, .int x2)] := hl
  unfold f_X2_judge
  refine zz_iload_n C dX2_judge_0 rfl (lv_at hl 1 rfl) ?_
  refine zz_aload_n C dX2_judge_1 rfl (lv_at hl 0 rfl) ?_
  refine zz_get C (zz_lt h0 (by decide)) (zz_c2 h0) rfl in_X2_judge_X2 3 (by decide) (List.mem_of_getElem? (i := 1) rfl) rfl dX2_judge_2 ?_
  refine zz_icmp_ne (tgt := 18) C dX2_judge_5 (by decide) (fun c_1 => ?_) (fun c_1 => ?_)
  · refine zz_aload_n C dX2_judge_8 rfl (lv_at hl 0 rfl) ?_
    refine zz_dup C dX2_judge_9 rfl ?_
    refine zz_get C (zz_lt h0 (by decide)) (zz_c2 h0) rfl in_X2_judge_X2 4 (by decide) (List.mem_of_getElem? (i := 2) rfl) rfl dX2_judge_10 ?_
    refine zz_iconst (v := 1) C dX2_judge_13 (by decide) ?_
    refine zz_iadd C dX2_judge_14 ?_
    refine zz_put (M1 := zz_si M a0 4 ((zz_i M a0 4) + (1 : Int32))) C (zz_lt h0 (by decide)) (zz_c2 h0) rfl in_X2_judge_X2 tyX2 tyX2_ok nmX2 4 (by decide) (List.mem_of_getElem? (i := 2) rfl) rfl rfl rfl (Nat.le_of_ble_eq_true rfl) (zz_p2_4 h0) zz_cell_si dX2_judge_15 (fun M_2 => ?_)
    exact wb_X2_judge_18 C hr  a0 x1 x2 h0 M_2 ls (lv_sub hl [0, 1, 2] rfl)
  · exact wb_X2_judge_18 C hr  a0 x1 x2 h0 M ls (lv_sub hl [0, 1, 2] rfl)
-- X2_dipNext ('X2', 'dipNext', '(ILFortyDips$Vat;)V')
theorem in_X2_dipNext_X2 : ∀ w ∈ u_ws RX2 TX2 7, w ∈ wsX2_dipNext := fun _ h => List.mem_cons_of_mem _ (List.mem_append_left _ (List.mem_append_left _ (List.mem_append_right _ h)))
theorem hdV_X0_dipInto : yX0_dipInto.cls = RX0 ∧ yX0_dipInto.cls ≠ "java/lang/invoke/MethodHandle" ∧ yX0_dipInto.cls ≠ "java/lang/invoke/VarHandle" ∧ (parseMethodDescriptor yX0_dipInto.desc).map (fun d => d.parameters.length) = some 1 := by decide +kernel
def f_X2_dipNext (a0 : Nat) (x1 : Int32) (a2 : Nat) (M : zz_M) : Option (Unit × zz_M) := (if zz_in (x1 + (1 : Int32)) 7 = true then (if zz_in x1 7 = true then zz_bd (f_X0_become ((a0 + 7) + 1 + 2 * zz_n (x1 + (1 : Int32))) ((a0 + 7) + 1 + 2 * zz_n x1) M) (fun _ M_3 => (if zz_in (x1 + (1 : Int32)) 7 = true then zz_bd (f_X0_dipInto ((a0 + 7) + 1 + 2 * zz_n (x1 + (1 : Int32))) a2 M_3) (fun _ M_5 => some ((), M_5)) else none)) else none) else none)
set_option maxRecDepth 100000 in
set_option maxHeartbeats 4000000 in
theorem m_X2_dipNext (l : Launch) (E : zz_E) (a0 : Nat) (x1 : Int32) (a2 : Nat) (h0 : zz_sh a0 = 2) (h2 : zz_sh a2 = 6) (M : zz_M) : zz_Met (zz_pv E) l yX2_dipNext wsX2_dipNext 4 E [.ref (E.1 + a0), .int x1, .ref (E.1 + a2)] M (f_X2_dipNext a0 x1 a2 M) := by
  refine zz_met (cc := cX2_dipNext) (nL := 3) (ret := none) (by decide) rfl (Nat.le_of_ble_eq_true rfl) ?_
  intro p e s m below meth c C hr ls hl
  have C : zz_C E RX2 cX2_dipNext 3 wsX2_dipNext p s m [.ref (E.1 + a0), .int x1, .ref (E.1 + a2)].toArray meth c := C
  have hl : lv_has ls 3 [(0, .ref (E.1 + a0)), (1, .int x1), (2, .ref (E.1 + a2))] := hl
  unfold f_X2_dipNext
  refine zz_aload_n C dX2_dipNext_0 rfl (lv_at hl 0 rfl) ?_
  refine zz_get C (zz_lt h0 (by decide)) (zz_c2 h0) rfl in_X2_dipNext_X2 1 (by decide) (List.mem_of_getElem? (i := 1) rfl) rfl dX2_dipNext_1 ?_
  refine zz_iload_n C dX2_dipNext_4 rfl (lv_at hl 1 rfl) ?_
  refine zz_iconst (v := 1) C dX2_dipNext_5 (by decide) ?_
  refine zz_iadd C dX2_dipNext_6 ?_
  refine zz_aald (t := 2) (g := fun i => (a0 + 7) + 1 + 2 * i) C (zz_lt (zz_s2_1 h0) (by decide)) (zz_c19 (zz_s2_1 h0)) rfl dX2_dipNext_7 (fun b_1 => ?_)
  refine zz_aload_n C dX2_dipNext_8 rfl (lv_at hl 0 rfl) ?_
  refine zz_get C (zz_lt h0 (by decide)) (zz_c2 h0) rfl in_X2_dipNext_X2 1 (by decide) (List.mem_of_getElem? (i := 1) rfl) rfl dX2_dipNext_9 ?_
  refine zz_iload_n C dX2_dipNext_12 rfl (lv_at hl 1 rfl) ?_
  refine zz_aald (t := 2) (g := fun i => (a0 + 7) + 1 + 2 * i) C (zz_lt (zz_s2_1 h0) (by decide)) (zz_c19 (zz_s2_1 h0)) rfl dX2_dipNext_13 (fun b_2 => ?_)
  refine zz_callVv (As := [.ref (E.1 + ((a0 + 7) + 1 + 2 * zz_n x1))]) (rest := []) C (m_X0_become l E ((a0 + 7) + 1 + 2 * zz_n (x1 + (1 : Int32))) ((a0 + 7) + 1 + 2 * zz_n x1) (zz_e19 (zz_s2_1 h0) b_1) (zz_e19 (zz_s2_1 h0) b_2) M) (cwV 1 C.1.2.2.2.2 gX2_dipNext_X0_become rfl rfl rfl hdV_X0_become ⟨Nat.le_of_ble_eq_true rfl, Nat.le_of_ble_eq_true rfl⟩) (zz_lt (zz_e19 (zz_s2_1 h0) b_1) (by decide)) (zz_c0 (zz_e19 (zz_s2_1 h0) b_1)) rfl rfl hl.1 rfl (Nat.le_of_ble_eq_true rfl) dX2_dipNext_14 (fun _ M_3 => ?_)
  refine zz_aload_n C dX2_dipNext_17 rfl (lv_at hl 0 rfl) ?_
  refine zz_get C (zz_lt h0 (by decide)) (zz_c2 h0) rfl in_X2_dipNext_X2 1 (by decide) (List.mem_of_getElem? (i := 1) rfl) rfl dX2_dipNext_18 ?_
  refine zz_iload_n C dX2_dipNext_21 rfl (lv_at hl 1 rfl) ?_
  refine zz_iconst (v := 1) C dX2_dipNext_22 (by decide) ?_
  refine zz_iadd C dX2_dipNext_23 ?_
  refine zz_aald (t := 2) (g := fun i => (a0 + 7) + 1 + 2 * i) C (zz_lt (zz_s2_1 h0) (by decide)) (zz_c19 (zz_s2_1 h0)) rfl dX2_dipNext_24 (fun b_4 => ?_)
  refine zz_aload_n C dX2_dipNext_25 rfl (lv_at hl 2 rfl) ?_
  refine zz_callVv (As := [.ref (E.1 + a2)]) (rest := []) C (m_X0_dipInto l E ((a0 + 7) + 1 + 2 * zz_n (x1 + (1 : Int32))) a2 (zz_e19 (zz_s2_1 h0) b_4) h2 M_3) (cwV 1 C.1.2.2.2.2 gX2_dipNext_X0_dipInto rfl rfl rfl hdV_X0_dipInto ⟨Nat.le_of_ble_eq_true rfl, Nat.le_of_ble_eq_true rfl⟩) (zz_lt (zz_e19 (zz_s2_1 h0) b_4) (by decide)) (zz_c0 (zz_e19 (zz_s2_1 h0) b_4)) rfl rfl hl.1 rfl (Nat.le_of_ble_eq_true rfl) dX2_dipNext_26 (fun _ M_5 => ?_)
  exact zz_vret C hr dX2_dipNext_29
-- X2_walkOn ('X2', 'walkOn', '(II)V')
theorem in_X2_walkOn_X2 : ∀ w ∈ u_ws RX2 TX2 7, w ∈ wsX2_walkOn := fun _ h => List.mem_cons_of_mem _ (List.mem_append_left _ (List.mem_append_left _ (List.mem_append_left _ (List.mem_append_right _ h))))
theorem in_X2_walkOn_X6 : ∀ w ∈ u_ws RX6 TX6 4, w ∈ wsX2_walkOn := fun _ h => List.mem_cons_of_mem _ (List.mem_append_left _ (List.mem_append_right _ h))
theorem in_X2_walkOn_X7 : ∀ w ∈ u_ws RX7 TX7 4, w ∈ wsX2_walkOn := fun _ h => List.mem_cons_of_mem _ (List.mem_append_left _ (List.mem_append_left _ (List.mem_append_right _ h)))
theorem hdV_X0_minutes : yX0_minutes.cls = RX0 ∧ yX0_minutes.cls ≠ "java/lang/invoke/MethodHandle" ∧ yX0_minutes.cls ≠ "java/lang/invoke/VarHandle" ∧ (parseMethodDescriptor yX0_minutes.desc).map (fun d => d.parameters.length) = some 0 := by decide +kernel
theorem hdV_X2_dipNext : yX2_dipNext.cls = RX2 ∧ yX2_dipNext.cls ≠ "java/lang/invoke/MethodHandle" ∧ yX2_dipNext.cls ≠ "java/lang/invoke/VarHandle" ∧ (parseMethodDescriptor yX2_dipNext.desc).map (fun d => d.parameters.length) = some 2 := by decide +kernel
theorem hdV_X2_judge : yX2_judge.cls = RX2 ∧ yX2_judge.cls ≠ "java/lang/invoke/MethodHandle" ∧ yX2_judge.cls ≠ "java/lang/invoke/VarHandle" ∧ (parseMethodDescriptor yX2_judge.desc).map (fun d => d.parameters.length) = some 2 := by decide +kernel
theorem hdV_X2_walkOn : yX2_walkOn.cls = RX2 ∧ yX2_walkOn.cls ≠ "java/lang/invoke/MethodHandle" ∧ yX2_walkOn.cls ≠ "java/lang/invoke/VarHandle" ∧ (parseMethodDescriptor yX2_walkOn.desc).map (fun d => d.parameters.length) = some 2 := by decide +kernel
def b_X2_walkOn_14 (frec : Nat → Int32 → Int32 → zz_M → Option (Unit × zz_M)) (a0 : Nat) (x1 : Int32) (x2 : Int32) (M : zz_M) : Option (Unit × zz_M) := (if zz_in x1 7 = true then zz_bd (f_X0_minutes ((a0 + 7) + 1 + 2 * zz_n x1) M) (fun r_4 M_5 => zz_bd (f_X2_judge a0 r_4 x2 M_5) (fun _ M_6 => some ((), M_6))) else none)
set_option maxRecDepth 100000 in
set_option maxHeartbeats 4000000 in
theorem wb_X2_walkOn_14 {p : Program} {l : Launch} {e : Env} {s : State} {m : MethodId} {args : Array Value} {below : List Frame} {meth : Method} {c : Code} {E : zz_E} {d : Nat} {frec : Nat → Int32 → Int32 → zz_M → Option (Unit × zz_M)} (C : zz_C E RX2 cX2_walkOn 7 wsX2_walkOn p s m args meth c) (hr : meth.sig.returnType = none) (mrec : ∀ (a0 : Nat) (x1 : Int32) (x2 : Int32) (h0 : zz_sh a0 = 2) (M : zz_M), zz_Met (zz_pv E) l yX2_walkOn wsX2_walkOn (d + 5) E [.ref (E.1 + a0), .int x1, .int x2] M (frec a0 x1 x2 M)) : ∀ (a0 : Nat) (x1 : Int32) (x2 : Int32) (ha0 : zz_sh a0 = 2) (M : zz_M) (ls : Array Slot), lv_has ls 7 [(0, .ref (E.1 + a0)), (1, .int x1), (2, .int x2)] → zz_Z E p l e (zz_rm (d + 1 + 5)) s m args below meth c (zz_Q (zz_pv E) E below args s) (b_X2_walkOn_14 frec a0 x1 x2 M) M (F0 m 14 ls []) := by
  intro a0 x1 x2 ha0 M ls hl
  unfold b_X2_walkOn_14
  refine zz_aload_n C dX2_walkOn_14 rfl (lv_at hl 0 rfl) ?_
  refine zz_aload_n C dX2_walkOn_15 rfl (lv_at hl 0 rfl) ?_
  refine zz_get C (zz_lt ha0 (by decide)) (zz_c2 ha0) rfl in_X2_walkOn_X2 1 (by decide) (List.mem_of_getElem? (i := 2) rfl) rfl dX2_walkOn_16 ?_
  refine zz_iload_n C dX2_walkOn_19 rfl (lv_at hl 1 rfl) ?_
  refine zz_aald (t := 2) (g := fun i => (a0 + 7) + 1 + 2 * i) C (zz_lt (zz_s2_1 ha0) (by decide)) (zz_c19 (zz_s2_1 ha0)) rfl dX2_walkOn_20 (fun b_3 => ?_)
  refine zz_callVi (As := []) (rest := [.ref (E.1 + a0)]) C (m_X0_minutes l E ((a0 + 7) + 1 + 2 * zz_n x1) (zz_e19 (zz_s2_1 ha0) b_3) M) (cwV 0 C.1.2.2.2.2 gX2_walkOn_X0_minutes rfl rfl rfl hdV_X0_minutes ⟨by simp only [zz_rm]; omega, by simp only [zz_rm]; omega⟩) (zz_lt (zz_e19 (zz_s2_1 ha0) b_3) (by decide)) (zz_c0 (zz_e19 (zz_s2_1 ha0) b_3)) rfl rfl hl.1 rfl (Nat.le_of_ble_eq_true rfl) dX2_walkOn_21 (fun r_4 M_5 => ?_)
  refine zz_iload_n C dX2_walkOn_24 rfl (lv_at hl 2 rfl) ?_
  refine zz_callVv (As := [.int r_4, .int x2]) (rest := []) C (m_X2_judge l E a0 r_4 x2 ha0 M_5) (cwV 2 C.1.2.2.2.2 gX2_walkOn_X2_judge rfl rfl rfl hdV_X2_judge ⟨by simp only [zz_rm]; omega, by simp only [zz_rm]; omega⟩) (zz_lt ha0 (by decide)) (zz_c2 ha0) rfl rfl hl.1 rfl (Nat.le_of_ble_eq_true rfl) dX2_walkOn_25 (fun _ M_6 => ?_)
  exact zz_vret C hr dX2_walkOn_28
def b_X2_walkOn_31 (frec : Nat → Int32 → Int32 → zz_M → Option (Unit × zz_M)) : Nat → Nat → Int32 → Int32 → Int32 → zz_M → Option (Unit × zz_M)
  | 0 => fun _ _ _ _ _ => none
  | n + 1 => fun a0 x1 x2 x3 M => (if (4 : Int32) ≤ x3 then some ((), M) else (if zz_in x3 4 = true then zz_w (zz_i M (((a0 + 1) + 1) + 1 + zz_n x3) 1) (fun x5_9 => zz_w (zz_i M (((a0 + 1) + 1) + 1 + zz_n x3) 2) (fun x6_10 => zz_bd (f_X2_dipNext a0 x1 (((a0 + 1) + 1) + 1 + zz_n x3) M) (fun _ M_11 => zz_bd (frec a0 (x1 + (1 : Int32)) (((4 : Int32) * x2) + x3) M_11) (fun _ M_12 => zz_w (zz_si M_12 (((a0 + 1) + 1) + 1 + zz_n x3) 1 x5_9) (fun M_13 => zz_w (zz_si M_13 (((a0 + 1) + 1) + 1 + zz_n x3) 2 x6_10) (fun M_14 => zz_w (x3 + (1 : Int32)) (fun x3_15 => (b_X2_walkOn_31 frec n) a0 x1 x2 x3_15 M_14))))))) else none))
set_option maxRecDepth 100000 in
set_option maxHeartbeats 4000000 in
theorem wb_X2_walkOn_31 {p : Program} {l : Launch} {e : Env} {s : State} {m : MethodId} {args : Array Value} {below : List Frame} {meth : Method} {c : Code} {E : zz_E} {d : Nat} {frec : Nat → Int32 → Int32 → zz_M → Option (Unit × zz_M)} (C : zz_C E RX2 cX2_walkOn 7 wsX2_walkOn p s m args meth c) (hr : meth.sig.returnType = none) (mrec : ∀ (a0 : Nat) (x1 : Int32) (x2 : Int32) (h0 : zz_sh a0 = 2) (M : zz_M), zz_Met (zz_pv E) l yX2_walkOn wsX2_walkOn (d + 5) E [.ref (E.1 + a0), .int x1, .int x2] M (frec a0 x1 x2 M)) : ∀ (n : Nat) (a0 : Nat) (x1 : Int32) (x2 : Int32) (x3 : Int32) (ha0 : zz_sh a0 = 2) (M : zz_M) (ls : Array Slot), lv_has ls 7 [(0, .ref (E.1 + a0)), (1, .int x1), (2, .int x2), (3, .int x3)] → zz_Z E p l e (zz_rm (d + 1 + 5)) s m args below meth c (zz_Q (zz_pv E) E below args s) (b_X2_walkOn_31 frec n a0 x1 x2 x3 M) M (F0 m 31 ls []) := by
  intro n
  induction n with
  | zero => intro a0 x1 x2 x3 ha0 M ls hl; exact zz_none
  | succ n ih =>
    intro a0 x1 x2 x3 ha0 M ls hl
    rw [b_X2_walkOn_31]
    refine zz_iload_n C dX2_walkOn_31 rfl (lv_at hl 3 rfl) ?_
    refine zz_iconst (v := 4) C dX2_walkOn_32 (by decide) ?_
    refine zz_icmp_ge (tgt := 100) C dX2_walkOn_33 (by decide) (fun c_7 => ?_) (fun c_7 => ?_)
    · exact zz_vret C hr dX2_walkOn_100
    · refine zz_aload_n C dX2_walkOn_36 rfl (lv_at hl 0 rfl) ?_
      refine zz_get C (zz_lt ha0 (by decide)) (zz_c2 ha0) rfl in_X2_walkOn_X2 0 (by decide) (List.mem_of_getElem? (i := 3) rfl) rfl dX2_walkOn_37 ?_
      refine zz_get C (zz_lt (zz_s2_0 ha0) (by decide)) (zz_c7 (zz_s2_0 ha0)) rfl in_X2_walkOn_X7 0 (by decide) (List.mem_of_getElem? (i := 4) rfl) rfl dX2_walkOn_40 ?_
      refine zz_iload_n C dX2_walkOn_43 rfl (lv_at hl 3 rfl) ?_
      refine zz_aald (t := 4) (g := fun i => ((a0 + 1) + 1) + 1 + i) C (zz_lt (zz_s7_0 (zz_s2_0 ha0)) (by decide)) (zz_c21 (zz_s7_0 (zz_s2_0 ha0))) rfl dX2_walkOn_44 (fun b_8 => ?_)
      refine zz_astore (lv' := [(4, .ref (E.1 + (((a0 + 1) + 1) + 1 + zz_n x3))), (0, .ref (E.1 + a0)), (1, .int x1), (2, .int x2), (3, .int x3)]) C dX2_walkOn_45 hl (by decide) rfl (fun ls hl => ?_)
      refine zz_aload C dX2_walkOn_47 (lv_at hl 0 rfl) ?_
      refine zz_get C (zz_lt (zz_e21 (zz_s7_0 (zz_s2_0 ha0)) b_8) (by decide)) (zz_c6 (zz_e21 (zz_s7_0 (zz_s2_0 ha0)) b_8)) rfl in_X2_walkOn_X6 1 (by decide) (List.mem_of_getElem? (i := 5) rfl) rfl dX2_walkOn_49 ?_
      refine zz_istore C (fun x5_9 => [(5, .int x5_9), (4, .ref (E.1 + (((a0 + 1) + 1) + 1 + zz_n x3))), (0, .ref (E.1 + a0)), (1, .int x1), (2, .int x2), (3, .int x3)]) dX2_walkOn_52 hl (by decide) (fun _ => rfl) (fun x5_9 ls hl => ?_)
      refine zz_aload C dX2_walkOn_54 (lv_at hl 1 rfl) ?_
      refine zz_get C (zz_lt (zz_e21 (zz_s7_0 (zz_s2_0 ha0)) b_8) (by decide)) (zz_c6 (zz_e21 (zz_s7_0 (zz_s2_0 ha0)) b_8)) rfl in_X2_walkOn_X6 2 (by decide) (List.mem_of_getElem? (i := 6) rfl) rfl dX2_walkOn_56 ?_
      refine zz_istore C (fun x6_10 => [(6, .int x6_10), (5, .int x5_9), (4, .ref (E.1 + (((a0 + 1) + 1) + 1 + zz_n x3))), (0, .ref (E.1 + a0)), (1, .int x1), (2, .int x2), (3, .int x3)]) dX2_walkOn_59 hl (by decide) (fun _ => rfl) (fun x6_10 ls hl => ?_)
      refine zz_aload_n C dX2_walkOn_61 rfl (lv_at hl 3 rfl) ?_
      refine zz_iload_n C dX2_walkOn_62 rfl (lv_at hl 4 rfl) ?_
      refine zz_aload C dX2_walkOn_63 (lv_at hl 2 rfl) ?_
      refine zz_callVv (As := [.int x1, .ref (E.1 + (((a0 + 1) + 1) + 1 + zz_n x3))]) (rest := []) C (m_X2_dipNext l E a0 x1 (((a0 + 1) + 1) + 1 + zz_n x3) ha0 (zz_e21 (zz_s7_0 (zz_s2_0 ha0)) b_8) M) (cwV 2 C.1.2.2.2.2 gX2_walkOn_X2_dipNext rfl rfl rfl hdV_X2_dipNext ⟨by simp only [zz_rm]; omega, by simp only [zz_rm]; omega⟩) (zz_lt ha0 (by decide)) (zz_c2 ha0) rfl rfl hl.1 rfl (Nat.le_of_ble_eq_true rfl) dX2_walkOn_65 (fun _ M_11 => ?_)
      refine zz_aload_n C dX2_walkOn_68 rfl (lv_at hl 3 rfl) ?_
      refine zz_iload_n C dX2_walkOn_69 rfl (lv_at hl 4 rfl) ?_
      refine zz_iconst (v := 1) C dX2_walkOn_70 (by decide) ?_
      refine zz_iadd C dX2_walkOn_71 ?_
      refine zz_iconst (v := 4) C dX2_walkOn_72 (by decide) ?_
      refine zz_iload_n C dX2_walkOn_73 rfl (lv_at hl 5 rfl) ?_
      refine zz_imul C dX2_walkOn_74 ?_
      refine zz_iload_n C dX2_walkOn_75 rfl (lv_at hl 6 rfl) ?_
      refine zz_iadd C dX2_walkOn_76 ?_
      refine zz_callVv (As := [.int (x1 + (1 : Int32)), .int (((4 : Int32) * x2) + x3)]) (rest := []) C (mrec a0 (x1 + (1 : Int32)) (((4 : Int32) * x2) + x3) ha0 M_11) (cwV 2 C.1.2.2.2.2 gX2_walkOn_X2_walkOn rfl rfl rfl hdV_X2_walkOn ⟨by simp only [zz_rm]; omega, by simp only [zz_rm]; omega⟩) (zz_lt ha0 (by decide)) (zz_c2 ha0) rfl rfl hl.1 rfl (Nat.le_of_ble_eq_true rfl) dX2_walkOn_77 (fun _ M_12 => ?_)
      refine zz_aload C dX2_walkOn_80 (lv_at hl 2 rfl) ?_
      refine zz_iload C dX2_walkOn_82 (lv_at hl 1 rfl) ?_
      refine zz_put (M1 := zz_si M_12 (((a0 + 1) + 1) + 1 + zz_n x3) 1 x5_9) C (zz_lt (zz_e21 (zz_s7_0 (zz_s2_0 ha0)) b_8) (by decide)) (zz_c6 (zz_e21 (zz_s7_0 (zz_s2_0 ha0)) b_8)) rfl in_X2_walkOn_X6 tyX6 tyX6_ok nmX6 1 (by decide) (List.mem_of_getElem? (i := 5) rfl) rfl rfl rfl (Nat.le_of_ble_eq_true rfl) (zz_p6_1 (zz_e21 (zz_s7_0 (zz_s2_0 ha0)) b_8)) zz_cell_si dX2_walkOn_84 (fun M_13 => ?_)
      refine zz_aload C dX2_walkOn_87 (lv_at hl 2 rfl) ?_
      refine zz_iload C dX2_walkOn_89 (lv_at hl 0 rfl) ?_
      refine zz_put (M1 := zz_si M_13 (((a0 + 1) + 1) + 1 + zz_n x3) 2 x6_10) C (zz_lt (zz_e21 (zz_s7_0 (zz_s2_0 ha0)) b_8) (by decide)) (zz_c6 (zz_e21 (zz_s7_0 (zz_s2_0 ha0)) b_8)) rfl in_X2_walkOn_X6 tyX6 tyX6_ok nmX6 2 (by decide) (List.mem_of_getElem? (i := 6) rfl) rfl rfl rfl (Nat.le_of_ble_eq_true rfl) (zz_p6_2 (zz_e21 (zz_s7_0 (zz_s2_0 ha0)) b_8)) zz_cell_si dX2_walkOn_91 (fun M_14 => ?_)
      refine zz_iinc (k9 := 6) (d := 1) C (fun x3_15 => [(3, .int x3_15), (6, .int x6_10), (5, .int x5_9), (4, .ref (E.1 + (((a0 + 1) + 1) + 1 + zz_n x3))), (0, .ref (E.1 + a0)), (1, .int x1), (2, .int x2)]) dX2_walkOn_94 hl rfl (by decide) (by decide) (fun _ => rfl) (fun x3_15 ls hl => ?_)
      refine zz_goto (tgt := 31) C dX2_walkOn_97 (by decide) ?_
      exact ih a0 x1 x2 x3_15 ha0 M_14 ls (lv_sub hl [4, 5, 6, 0] rfl)
def f_X2_walkOnR : Nat → Nat → Int32 → Int32 → zz_M → Option (Unit × zz_M)
  | 0 => fun _ _ _ _ => none
  | n + 1 => fun a0 x1 x2 M => (if (zz_i M a0 2) ≤ x1 then b_X2_walkOn_14 (f_X2_walkOnR n)  a0 x1 x2 M else (if x1 < (6 : Int32) then b_X2_walkOn_31 (f_X2_walkOnR n)  zz_fuel a0 x1 x2 (0 : Int32) M else b_X2_walkOn_14 (f_X2_walkOnR n)  a0 x1 x2 M))
set_option maxRecDepth 100000 in
set_option maxHeartbeats 4000000 in
theorem m_X2_walkOnR (l : Launch) (E : zz_E) : ∀ (d : Nat) (a0 : Nat) (x1 : Int32) (x2 : Int32) (h0 : zz_sh a0 = 2) (M : zz_M), zz_Met (zz_pv E) l yX2_walkOn wsX2_walkOn (d + 5) E [.ref (E.1 + a0), .int x1, .int x2] M (f_X2_walkOnR d a0 x1 x2 M) := by
  intro d
  induction d with
  | zero => intro a0 x1 x2 h0 M r M1 h; nomatch h
  | succ d mrec =>
    intro a0 x1 x2 h0 M
    rw [f_X2_walkOnR]
    refine zz_met (cc := cX2_walkOn) (nL := 7) (ret := none) (by decide) rfl (Nat.le_of_ble_eq_true rfl) ?_
    intro p e s m below meth c C hr ls hl
    have C : zz_C E RX2 cX2_walkOn 7 wsX2_walkOn p s m [.ref (E.1 + a0), .int x1, .int x2].toArray meth c := C
    have hl : lv_has ls 7 [(0, .ref (E.1 + a0)), (1, .int x1), (2, .int x2)] := hl
    refine zz_iload_n C dX2_walkOn_0 rfl (lv_at hl 1 rfl) ?_
    refine zz_aload_n C dX2_walkOn_1 rfl (lv_at hl 0 rfl) ?_
    refine zz_get C (zz_lt h0 (by decide)) (zz_c2 h0) rfl in_X2_walkOn_X2 2 (by decide) (List.mem_of_getElem? (i := 1) rfl) rfl dX2_walkOn_2 ?_
    refine zz_icmp_ge (tgt := 14) C dX2_walkOn_5 (by decide) (fun c_1 => ?_) (fun c_1 => ?_)
    · exact wb_X2_walkOn_14 C hr mrec  a0 x1 x2 h0 M ls (lv_sub hl [0, 1, 2] rfl)
    · refine zz_iload_n C dX2_walkOn_8 rfl (lv_at hl 1 rfl) ?_
      refine zz_bipush (v := 6) C dX2_walkOn_9 (by decide) ?_
      refine zz_icmp_lt (tgt := 29) C dX2_walkOn_11 (by decide) (fun c_2 => ?_) (fun c_2 => ?_)
      · refine zz_iconst (v := 0) C dX2_walkOn_29 (by decide) ?_
        refine zz_istored_n (lv' := [(3, .int (0 : Int32)), (0, .ref (E.1 + a0)), (1, .int x1), (2, .int x2)]) C dX2_walkOn_30 rfl hl (by decide) rfl (fun ls hl => ?_)
        exact wb_X2_walkOn_31 C hr mrec  zz_fuel a0 x1 x2 (0 : Int32) h0 M ls (lv_sub hl [1, 2, 3, 0] rfl)
      · exact wb_X2_walkOn_14 C hr mrec  a0 x1 x2 h0 M ls (lv_sub hl [0, 1, 2] rfl)
def f_X2_walkOn (a0 : Nat) (x1 : Int32) (x2 : Int32) (M : zz_M) : Option (Unit × zz_M) := f_X2_walkOnR 8 a0 x1 x2 M
theorem m_X2_walkOn (l : Launch) (E : zz_E) (a0 : Nat) (x1 : Int32) (x2 : Int32) (h0 : zz_sh a0 = 2) (M : zz_M) : zz_Met (zz_pv E) l yX2_walkOn wsX2_walkOn 13 E [.ref (E.1 + a0), .int x1, .int x2] M (f_X2_walkOn a0 x1 x2 M) := m_X2_walkOnR l E 8 a0 x1 x2 h0 M
-- X2_walk ('X2', 'walk', '(LFortyDips$Vats;LFortyDips$Candle;II)V')
theorem in_X2_walk_X2 : ∀ w ∈ u_ws RX2 TX2 7, w ∈ wsX2_walk := fun _ h => List.mem_cons_of_mem _ (List.mem_append_left _ (List.mem_append_left _ (List.mem_append_left _ (List.mem_append_right _ h))))
def f_X2_walk (a0 : Nat) (a1 : Nat) (a2 : Nat) (x3 : Int32) (x4 : Int32) (M : zz_M) : Option (Unit × zz_M) := zz_bd (f_X7_become (a0 + 1) a1 M) (fun _ M_1 => (if zz_in (0 : Int32) 7 = true then zz_bd (f_X0_become ((a0 + 7) + 1 + 2 * zz_n (0 : Int32)) a2 M_1) (fun _ M_3 => zz_w (zz_si M_3 a0 2 x3) (fun M_4 => zz_w (zz_si M_4 a0 3 x4) (fun M_5 => zz_w (zz_si M_5 a0 4 (0 : Int32)) (fun M_6 => zz_w (zz_si M_6 a0 5 (0 : Int32)) (fun M_7 => zz_w (zz_si M_7 a0 6 (-1 : Int32)) (fun M_8 => zz_bd (f_X2_walkOn a0 (0 : Int32) (0 : Int32) M_8) (fun _ M_9 => some ((), M_9)))))))) else none))
set_option maxRecDepth 100000 in
set_option maxHeartbeats 4000000 in
theorem m_X2_walk (l : Launch) (E : zz_E) (a0 : Nat) (a1 : Nat) (a2 : Nat) (x3 : Int32) (x4 : Int32) (h0 : zz_sh a0 = 2) (h1 : zz_sh a1 = 7) (h2 : zz_sh a2 = 0) (M : zz_M) : zz_Met (zz_pv E) l yX2_walk wsX2_walk 14 E [.ref (E.1 + a0), .ref (E.1 + a1), .ref (E.1 + a2), .int x3, .int x4] M (f_X2_walk a0 a1 a2 x3 x4 M) := by
  refine zz_met (cc := cX2_walk) (nL := 5) (ret := none) (by decide) rfl (Nat.le_of_ble_eq_true rfl) ?_
  intro p e s m below meth c C hr ls hl
  have C : zz_C E RX2 cX2_walk 5 wsX2_walk p s m [.ref (E.1 + a0), .ref (E.1 + a1), .ref (E.1 + a2), .int x3, .int x4].toArray meth c := C
  have hl : lv_has ls 5 [(0, .ref (E.1 + a0)), (1, .ref (E.1 + a1)), (2, .ref (E.1 + a2)), (3, .int x3), (4, .int x4)] := hl
  unfold f_X2_walk
  refine zz_aload_n C dX2_walk_0 rfl (lv_at hl 0 rfl) ?_
  refine zz_get C (zz_lt h0 (by decide)) (zz_c2 h0) rfl in_X2_walk_X2 0 (by decide) (List.mem_of_getElem? (i := 1) rfl) rfl dX2_walk_1 ?_
  refine zz_aload_n C dX2_walk_4 rfl (lv_at hl 1 rfl) ?_
  refine zz_callVv (As := [.ref (E.1 + a1)]) (rest := []) C (m_X7_become l E (a0 + 1) a1 (zz_s2_0 h0) h1 M) (cwV 1 C.1.2.2.2.2 gX2_walk_X7_become rfl rfl rfl hdV_X7_become ⟨Nat.le_of_ble_eq_true rfl, Nat.le_of_ble_eq_true rfl⟩) (zz_lt (zz_s2_0 h0) (by decide)) (zz_c7 (zz_s2_0 h0)) rfl rfl hl.1 rfl (Nat.le_of_ble_eq_true rfl) dX2_walk_5 (fun _ M_1 => ?_)
  refine zz_aload_n C dX2_walk_8 rfl (lv_at hl 0 rfl) ?_
  refine zz_get C (zz_lt h0 (by decide)) (zz_c2 h0) rfl in_X2_walk_X2 1 (by decide) (List.mem_of_getElem? (i := 2) rfl) rfl dX2_walk_9 ?_
  refine zz_iconst (v := 0) C dX2_walk_12 (by decide) ?_
  refine zz_aald (t := 2) (g := fun i => (a0 + 7) + 1 + 2 * i) C (zz_lt (zz_s2_1 h0) (by decide)) (zz_c19 (zz_s2_1 h0)) rfl dX2_walk_13 (fun b_2 => ?_)
  refine zz_aload_n C dX2_walk_14 rfl (lv_at hl 2 rfl) ?_
  refine zz_callVv (As := [.ref (E.1 + a2)]) (rest := []) C (m_X0_become l E ((a0 + 7) + 1 + 2 * zz_n (0 : Int32)) a2 (zz_e19 (zz_s2_1 h0) b_2) h2 M_1) (cwV 1 C.1.2.2.2.2 gX2_walk_X0_become rfl rfl rfl hdV_X0_become ⟨Nat.le_of_ble_eq_true rfl, Nat.le_of_ble_eq_true rfl⟩) (zz_lt (zz_e19 (zz_s2_1 h0) b_2) (by decide)) (zz_c0 (zz_e19 (zz_s2_1 h0) b_2)) rfl rfl hl.1 rfl (Nat.le_of_ble_eq_true rfl) dX2_walk_15 (fun _ M_3 => ?_)
  refine zz_aload_n C dX2_walk_18 rfl (lv_at hl 0 rfl) ?_
  refine zz_iload_n C dX2_walk_19 rfl (lv_at hl 3 rfl) ?_
  refine zz_put (M1 := zz_si M_3 a0 2 x3) C (zz_lt h0 (by decide)) (zz_c2 h0) rfl in_X2_walk_X2 tyX2 tyX2_ok nmX2 2 (by decide) (List.mem_of_getElem? (i := 3) rfl) rfl rfl rfl (Nat.le_of_ble_eq_true rfl) (zz_p2_2 h0) zz_cell_si dX2_walk_20 (fun M_4 => ?_)
  refine zz_aload_n C dX2_walk_23 rfl (lv_at hl 0 rfl) ?_
  refine zz_iload C dX2_walk_24 (lv_at hl 4 rfl) ?_
  refine zz_put (M1 := zz_si M_4 a0 3 x4) C (zz_lt h0 (by decide)) (zz_c2 h0) rfl in_X2_walk_X2 tyX2 tyX2_ok nmX2 3 (by decide) (List.mem_of_getElem? (i := 4) rfl) rfl rfl rfl (Nat.le_of_ble_eq_true rfl) (zz_p2_3 h0) zz_cell_si dX2_walk_26 (fun M_5 => ?_)
  refine zz_aload_n C dX2_walk_29 rfl (lv_at hl 0 rfl) ?_
  refine zz_iconst (v := 0) C dX2_walk_30 (by decide) ?_
  refine zz_put (M1 := zz_si M_5 a0 4 (0 : Int32)) C (zz_lt h0 (by decide)) (zz_c2 h0) rfl in_X2_walk_X2 tyX2 tyX2_ok nmX2 4 (by decide) (List.mem_of_getElem? (i := 5) rfl) rfl rfl rfl (Nat.le_of_ble_eq_true rfl) (zz_p2_4 h0) zz_cell_si dX2_walk_31 (fun M_6 => ?_)
  refine zz_aload_n C dX2_walk_34 rfl (lv_at hl 0 rfl) ?_
  refine zz_iconst (v := 0) C dX2_walk_35 (by decide) ?_
  refine zz_put (M1 := zz_si M_6 a0 5 (0 : Int32)) C (zz_lt h0 (by decide)) (zz_c2 h0) rfl in_X2_walk_X2 tyX2 tyX2_ok nmX2 5 (by decide) (List.mem_of_getElem? (i := 6) rfl) rfl rfl rfl (Nat.le_of_ble_eq_true rfl) (zz_p2_5 h0) zz_cell_si dX2_walk_36 (fun M_7 => ?_)
  refine zz_aload_n C dX2_walk_39 rfl (lv_at hl 0 rfl) ?_
  refine zz_iconst (v := -1) C dX2_walk_40 (by decide) ?_
  refine zz_put (M1 := zz_si M_7 a0 6 (-1 : Int32)) C (zz_lt h0 (by decide)) (zz_c2 h0) rfl in_X2_walk_X2 tyX2 tyX2_ok nmX2 6 (by decide) (List.mem_of_getElem? (i := 7) rfl) rfl rfl rfl (Nat.le_of_ble_eq_true rfl) (zz_p2_6 h0) zz_cell_si dX2_walk_41 (fun M_8 => ?_)
  refine zz_aload_n C dX2_walk_44 rfl (lv_at hl 0 rfl) ?_
  refine zz_iconst (v := 0) C dX2_walk_45 (by decide) ?_
  refine zz_iconst (v := 0) C dX2_walk_46 (by decide) ?_
  refine zz_callVv (As := [.int (0 : Int32), .int (0 : Int32)]) (rest := []) C (m_X2_walkOn l E a0 (0 : Int32) (0 : Int32) h0 M_8) (cwV 2 C.1.2.2.2.2 gX2_walk_X2_walkOn rfl rfl rfl hdV_X2_walkOn ⟨Nat.le_of_ble_eq_true rfl, Nat.le_of_ble_eq_true rfl⟩) (zz_lt h0 (by decide)) (zz_c2 h0) rfl rfl hl.1 rfl (Nat.le_of_ble_eq_true rfl) dX2_walk_47 (fun _ M_9 => ?_)
  exact zz_vret C hr dX2_walk_50
-- X2_seek ('X2', 'seek', '(LFortyDips$Sheet;II)I')
theorem in_X2_seek_X0 : ∀ w ∈ u_ws RX0 TX0 5, w ∈ wsX2_seek := fun _ h => List.mem_cons_of_mem _ (List.mem_append_right _ h)
theorem in_X2_seek_X2 : ∀ w ∈ u_ws RX2 TX2 7, w ∈ wsX2_seek := fun _ h => List.mem_cons_of_mem _ (List.mem_append_left _ (List.mem_append_left _ (List.mem_append_left _ (List.mem_append_right _ h))))
theorem in_X2_seek_X3 : ∀ w ∈ u_ws RX3 TX3 3, w ∈ wsX2_seek := fun _ h => List.mem_cons_of_mem _ (List.mem_append_left _ (List.mem_append_left _ (List.mem_append_left _ (List.mem_append_left _ (List.mem_append_right _ h)))))
theorem in_X2_seek_X6 : ∀ w ∈ u_ws RX6 TX6 4, w ∈ wsX2_seek := fun _ h => List.mem_cons_of_mem _ (List.mem_append_left _ (List.mem_append_right _ h))
theorem in_X2_seek_X7 : ∀ w ∈ u_ws RX7 TX7 4, w ∈ wsX2_seek := fun _ h => List.mem_cons_of_mem _ (List.mem_append_left _ (List.mem_append_left _ (List.mem_append_right _ h)))
theorem hdV_X2_seek : yX2_seek.cls = RX2 ∧ yX2_seek.cls ≠ "java/lang/invoke/MethodHandle" ∧ yX2_seek.cls ≠ "java/lang/invoke/VarHandle" ∧ (parseMethodDescriptor yX2_seek.desc).map (fun d => d.parameters.length) = some 3 := by decide +kernel
def b_X2_seek_123 (frec : Nat → Nat → Int32 → Int32 → zz_M → Option (Int32 × zz_M)) (k22 : Nat → Nat → Int32 → Int32 → Int32 → Int32 → zz_M → Option (Int32 × zz_M)) (a0 : Nat) (a1 : Nat) (x2 : Int32) (x3 : Int32) (x4 : Int32) (x5 : Int32) (a6 : Nat) (x7 : Int32) (x8 : Int32) (M : zz_M) : Option (Int32 × zz_M) := zz_w (zz_si M a6 1 x7) (fun M_15 => zz_w (zz_si M_15 a6 2 x8) (fun M_16 => zz_w (x5 + (1 : Int32)) (fun x5_17 => k22 a0 a1 x2 x3 x4 x5_17 M_16)))
set_option maxRecDepth 100000 in
set_option maxHeartbeats 4000000 in
theorem wb_X2_seek_123 {p : Program} {l : Launch} {e : Env} {s : State} {m : MethodId} {args : Array Value} {below : List Frame} {meth : Method} {c : Code} {E : zz_E} {d : Nat} {frec : Nat → Nat → Int32 → Int32 → zz_M → Option (Int32 × zz_M)} (C : zz_C E RX2 cX2_seek 9 wsX2_seek p s m args meth c) (hr : meth.sig.returnType = (some .int)) (mrec : ∀ (a0 : Nat) (a1 : Nat) (x2 : Int32) (x3 : Int32) (h0 : zz_sh a0 = 2) (h1 : zz_sh a1 = 3) (M : zz_M), zz_Met (zz_pi E) l yX2_seek wsX2_seek (d + 5) E [.ref (E.1 + a0), .ref (E.1 + a1), .int x2, .int x3] M (frec a0 a1 x2 x3 M)) {k22 : Nat → Nat → Int32 → Int32 → Int32 → Int32 → zz_M → Option (Int32 × zz_M)} (hk22 : ∀ (a0 : Nat) (a1 : Nat) (x2 : Int32) (x3 : Int32) (x4 : Int32) (x5 : Int32) (ha0 : zz_sh a0 = 2) (ha1 : zz_sh a1 = 3) (M : zz_M) (ls : Array Slot), lv_has ls 9 [(0, .ref (E.1 + a0)), (1, .ref (E.1 + a1)), (2, .int x2), (3, .int x3), (4, .int x4), (5, .int x5)] → zz_Z E p l e (zz_rm (d + 1 + 5)) s m args below meth c (zz_Q (zz_pi E) E below args s) (k22 a0 a1 x2 x3 x4 x5 M) M (F0 m 22 ls [])) : ∀ (a0 : Nat) (a1 : Nat) (x2 : Int32) (x3 : Int32) (x4 : Int32) (x5 : Int32) (a6 : Nat) (x7 : Int32) (x8 : Int32) (ha0 : zz_sh a0 = 2) (ha1 : zz_sh a1 = 3) (ha6 : zz_sh a6 = 6) (M : zz_M) (ls : Array Slot), lv_has ls 9 [(0, .ref (E.1 + a0)), (1, .ref (E.1 + a1)), (2, .int x2), (3, .int x3), (4, .int x4), (5, .int x5), (6, .ref (E.1 + a6)), (7, .int x7), (8, .int x8)] → zz_Z E p l e (zz_rm (d + 1 + 5)) s m args below meth c (zz_Q (zz_pi E) E below args s) (b_X2_seek_123 frec k22 a0 a1 x2 x3 x4 x5 a6 x7 x8 M) M (F0 m 123 ls []) := by
  intro a0 a1 x2 x3 x4 x5 a6 x7 x8 ha0 ha1 ha6 M ls hl
  unfold b_X2_seek_123
  refine zz_aload C dX2_seek_123 (lv_at hl 6 rfl) ?_
  refine zz_iload C dX2_seek_125 (lv_at hl 7 rfl) ?_
  refine zz_put (M1 := zz_si M a6 1 x7) C (zz_lt ha6 (by decide)) (zz_c6 ha6) rfl in_X2_seek_X6 tyX6 tyX6_ok nmX6 1 (by decide) (List.mem_of_getElem? (i := 4) rfl) rfl rfl rfl (Nat.le_of_ble_eq_true rfl) (zz_p6_1 ha6) zz_cell_si dX2_seek_127 (fun M_15 => ?_)
  refine zz_aload C dX2_seek_130 (lv_at hl 6 rfl) ?_
  refine zz_iload C dX2_seek_132 (lv_at hl 8 rfl) ?_
  refine zz_put (M1 := zz_si M_15 a6 2 x8) C (zz_lt ha6 (by decide)) (zz_c6 ha6) rfl in_X2_seek_X6 tyX6 tyX6_ok nmX6 2 (by decide) (List.mem_of_getElem? (i := 5) rfl) rfl rfl rfl (Nat.le_of_ble_eq_true rfl) (zz_p6_2 ha6) zz_cell_si dX2_seek_134 (fun M_16 => ?_)
  refine zz_iinc (k9 := 5) (d := 1) C (fun x5_17 => [(5, .int x5_17), (0, .ref (E.1 + a0)), (1, .ref (E.1 + a1)), (2, .int x2), (3, .int x3), (4, .int x4), (6, .ref (E.1 + a6)), (7, .int x7), (8, .int x8)]) dX2_seek_137 hl rfl (by decide) (by decide) (fun _ => rfl) (fun x5_17 ls hl => ?_)
  refine zz_goto (tgt := 22) C dX2_seek_140 (by decide) ?_
  exact hk22 a0 a1 x2 x3 x4 x5_17 ha0 ha1 M_16 ls (lv_sub hl [1, 2, 3, 4, 5, 0] rfl)
def b_X2_seek_22 (frec : Nat → Nat → Int32 → Int32 → zz_M → Option (Int32 × zz_M)) : Nat → Nat → Nat → Int32 → Int32 → Int32 → Int32 → zz_M → Option (Int32 × zz_M)
  | 0 => fun _ _ _ _ _ _ _ => none
  | n + 1 => fun a0 a1 x2 x3 x4 x5 M => (if (4 : Int32) ≤ x5 then some (x4, M) else (if 0 ≤ x4 then some (x4, M) else (if zz_in x5 4 = true then zz_w (zz_i M (((a0 + 1) + 1) + 1 + zz_n x5) 1) (fun x7_6 => zz_w (zz_i M (((a0 + 1) + 1) + 1 + zz_n x5) 2) (fun x8_7 => zz_bd (f_X2_dipNext a0 x2 (((a0 + 1) + 1) + 1 + zz_n x5) M) (fun _ M_8 => (if zz_in (x2 + (1 : Int32)) 7 = true then (if (zz_i M_8 ((a0 + 7) + 1 + 2 * zz_n (x2 + (1 : Int32))) 1) = (x2 + (1 : Int32)) then (if zz_in (x2 + (1 : Int32)) 7 = true then (if zz_in x2 40 = true then (if zz_in x2 40 = true then (if (lg_cmp ((zz_i M_8 (((a0 + 7) + 1 + 2 * zz_n (x2 + (1 : Int32))) + 1) (zz_n x2)).toInt64) (zz_j M_8 (a1 + 1) (zz_n x2))) = 0 then zz_bd (frec a0 a1 (x2 + (1 : Int32)) (((4 : Int32) * x3) + x5) M_8) (fun r_13 M_14 => b_X2_seek_123 frec (b_X2_seek_22 frec n) a0 a1 x2 x3 r_13 x5 (((a0 + 1) + 1) + 1 + zz_n x5) x7_6 x8_7 M_14) else b_X2_seek_123 frec (b_X2_seek_22 frec n) a0 a1 x2 x3 x4 x5 (((a0 + 1) + 1) + 1 + zz_n x5) x7_6 x8_7 M_8) else none) else none) else none) else b_X2_seek_123 frec (b_X2_seek_22 frec n) a0 a1 x2 x3 x4 x5 (((a0 + 1) + 1) + 1 + zz_n x5) x7_6 x8_7 M_8) else none)))) else none)))
set_option maxRecDepth 100000 in
set_option maxHeartbeats 4000000 in
theorem wb_X2_seek_22 {p : Program} {l : Launch} {e : Env} {s : State} {m : MethodId} {args : Array Value} {below : List Frame} {meth : Method} {c : Code} {E : zz_E} {d : Nat} {frec : Nat → Nat → Int32 → Int32 → zz_M → Option (Int32 × zz_M)} (C : zz_C E RX2 cX2_seek 9 wsX2_seek p s m args meth c) (hr : meth.sig.returnType = (some .int)) (mrec : ∀ (a0 : Nat) (a1 : Nat) (x2 : Int32) (x3 : Int32) (h0 : zz_sh a0 = 2) (h1 : zz_sh a1 = 3) (M : zz_M), zz_Met (zz_pi E) l yX2_seek wsX2_seek (d + 5) E [.ref (E.1 + a0), .ref (E.1 + a1), .int x2, .int x3] M (frec a0 a1 x2 x3 M)) : ∀ (n : Nat) (a0 : Nat) (a1 : Nat) (x2 : Int32) (x3 : Int32) (x4 : Int32) (x5 : Int32) (ha0 : zz_sh a0 = 2) (ha1 : zz_sh a1 = 3) (M : zz_M) (ls : Array Slot), lv_has ls 9 [(0, .ref (E.1 + a0)), (1, .ref (E.1 + a1)), (2, .int x2), (3, .int x3), (4, .int x4), (5, .int x5)] → zz_Z E p l e (zz_rm (d + 1 + 5)) s m args below meth c (zz_Q (zz_pi E) E below args s) (b_X2_seek_22 frec n a0 a1 x2 x3 x4 x5 M) M (F0 m 22 ls []) := by
  intro n
  induction n with
  | zero => intro a0 a1 x2 x3 x4 x5 ha0 ha1 M ls hl; exact zz_none
  | succ n ih =>
    intro a0 a1 x2 x3 x4 x5 ha0 ha1 M ls hl
    rw [b_X2_seek_22]
    refine zz_iload C dX2_seek_22 (lv_at hl 5 rfl) ?_
    refine zz_iconst (v := 4) C dX2_seek_24 (by decide) ?_
    refine zz_icmp_ge (tgt := 143) C dX2_seek_25 (by decide) (fun c_3 => ?_) (fun c_3 => ?_)
    · refine zz_iload C dX2_seek_143 (lv_at hl 4 rfl) ?_
      exact zz_iret C hr dX2_seek_145
    · refine zz_iload C dX2_seek_28 (lv_at hl 4 rfl) ?_
      refine zz_if_ge (tgt := 143) C dX2_seek_30 (by decide) (fun c_4 => ?_) (fun c_4 => ?_)
      · refine zz_iload C dX2_seek_143 (lv_at hl 4 rfl) ?_
        exact zz_iret C hr dX2_seek_145
      · refine zz_aload_n C dX2_seek_33 rfl (lv_at hl 0 rfl) ?_
        refine zz_get C (zz_lt ha0 (by decide)) (zz_c2 ha0) rfl in_X2_seek_X2 0 (by decide) (List.mem_of_getElem? (i := 2) rfl) rfl dX2_seek_34 ?_
        refine zz_get C (zz_lt (zz_s2_0 ha0) (by decide)) (zz_c7 (zz_s2_0 ha0)) rfl in_X2_seek_X7 0 (by decide) (List.mem_of_getElem? (i := 3) rfl) rfl dX2_seek_37 ?_
        refine zz_iload C dX2_seek_40 (lv_at hl 5 rfl) ?_
        refine zz_aald (t := 4) (g := fun i => ((a0 + 1) + 1) + 1 + i) C (zz_lt (zz_s7_0 (zz_s2_0 ha0)) (by decide)) (zz_c21 (zz_s7_0 (zz_s2_0 ha0))) rfl dX2_seek_42 (fun b_5 => ?_)
        refine zz_astore (lv' := [(6, .ref (E.1 + (((a0 + 1) + 1) + 1 + zz_n x5))), (0, .ref (E.1 + a0)), (1, .ref (E.1 + a1)), (2, .int x2), (3, .int x3), (4, .int x4), (5, .int x5)]) C dX2_seek_43 hl (by decide) rfl (fun ls hl => ?_)
        refine zz_aload C dX2_seek_45 (lv_at hl 0 rfl) ?_
        refine zz_get C (zz_lt (zz_e21 (zz_s7_0 (zz_s2_0 ha0)) b_5) (by decide)) (zz_c6 (zz_e21 (zz_s7_0 (zz_s2_0 ha0)) b_5)) rfl in_X2_seek_X6 1 (by decide) (List.mem_of_getElem? (i := 4) rfl) rfl dX2_seek_47 ?_
        refine zz_istore C (fun x7_6 => [(7, .int x7_6), (6, .ref (E.1 + (((a0 + 1) + 1) + 1 + zz_n x5))), (0, .ref (E.1 + a0)), (1, .ref (E.1 + a1)), (2, .int x2), (3, .int x3), (4, .int x4), (5, .int x5)]) dX2_seek_50 hl (by decide) (fun _ => rfl) (fun x7_6 ls hl => ?_)
        refine zz_aload C dX2_seek_52 (lv_at hl 1 rfl) ?_
        refine zz_get C (zz_lt (zz_e21 (zz_s7_0 (zz_s2_0 ha0)) b_5) (by decide)) (zz_c6 (zz_e21 (zz_s7_0 (zz_s2_0 ha0)) b_5)) rfl in_X2_seek_X6 2 (by decide) (List.mem_of_getElem? (i := 5) rfl) rfl dX2_seek_54 ?_
        refine zz_istore C (fun x8_7 => [(8, .int x8_7), (7, .int x7_6), (6, .ref (E.1 + (((a0 + 1) + 1) + 1 + zz_n x5))), (0, .ref (E.1 + a0)), (1, .ref (E.1 + a1)), (2, .int x2), (3, .int x3), (4, .int x4), (5, .int x5)]) dX2_seek_57 hl (by decide) (fun _ => rfl) (fun x8_7 ls hl => ?_)
        refine zz_aload_n C dX2_seek_59 rfl (lv_at hl 3 rfl) ?_
        refine zz_iload_n C dX2_seek_60 rfl (lv_at hl 5 rfl) ?_
        refine zz_aload C dX2_seek_61 (lv_at hl 2 rfl) ?_
        refine zz_callVv (As := [.int x2, .ref (E.1 + (((a0 + 1) + 1) + 1 + zz_n x5))]) (rest := []) C (m_X2_dipNext l E a0 x2 (((a0 + 1) + 1) + 1 + zz_n x5) ha0 (zz_e21 (zz_s7_0 (zz_s2_0 ha0)) b_5) M) (cwV 2 C.1.2.2.2.2 gX2_seek_X2_dipNext rfl rfl rfl hdV_X2_dipNext ⟨by simp only [zz_rm]; omega, by simp only [zz_rm]; omega⟩) (zz_lt ha0 (by decide)) (zz_c2 ha0) rfl rfl hl.1 rfl (Nat.le_of_ble_eq_true rfl) dX2_seek_63 (fun _ M_8 => ?_)
        refine zz_aload_n C dX2_seek_66 rfl (lv_at hl 3 rfl) ?_
        refine zz_get C (zz_lt ha0 (by decide)) (zz_c2 ha0) rfl in_X2_seek_X2 1 (by decide) (List.mem_of_getElem? (i := 6) rfl) rfl dX2_seek_67 ?_
        refine zz_iload_n C dX2_seek_70 rfl (lv_at hl 5 rfl) ?_
        refine zz_iconst (v := 1) C dX2_seek_71 (by decide) ?_
        refine zz_iadd C dX2_seek_72 ?_
        refine zz_aald (t := 2) (g := fun i => (a0 + 7) + 1 + 2 * i) C (zz_lt (zz_s2_1 ha0) (by decide)) (zz_c19 (zz_s2_1 ha0)) rfl dX2_seek_73 (fun b_9 => ?_)
        refine zz_get C (zz_lt (zz_e19 (zz_s2_1 ha0) b_9) (by decide)) (zz_c0 (zz_e19 (zz_s2_1 ha0) b_9)) rfl in_X2_seek_X0 1 (by decide) (List.mem_of_getElem? (i := 7) rfl) rfl dX2_seek_74 ?_
        refine zz_iload_n C dX2_seek_77 rfl (lv_at hl 5 rfl) ?_
        refine zz_iconst (v := 1) C dX2_seek_78 (by decide) ?_
        refine zz_iadd C dX2_seek_79 ?_
        refine zz_icmp_ne (tgt := 123) C dX2_seek_80 (by decide) (fun c_10 => ?_) (fun c_10 => ?_)
        · refine zz_aload_n C dX2_seek_83 rfl (lv_at hl 3 rfl) ?_
          refine zz_get C (zz_lt ha0 (by decide)) (zz_c2 ha0) rfl in_X2_seek_X2 1 (by decide) (List.mem_of_getElem? (i := 6) rfl) rfl dX2_seek_84 ?_
          refine zz_iload_n C dX2_seek_87 rfl (lv_at hl 5 rfl) ?_
          refine zz_iconst (v := 1) C dX2_seek_88 (by decide) ?_
          refine zz_iadd C dX2_seek_89 ?_
          refine zz_aald (t := 2) (g := fun i => (a0 + 7) + 1 + 2 * i) C (zz_lt (zz_s2_1 ha0) (by decide)) (zz_c19 (zz_s2_1 ha0)) rfl dX2_seek_90 (fun b_11 => ?_)
          refine zz_get C (zz_lt (zz_e19 (zz_s2_1 ha0) b_11) (by decide)) (zz_c0 (zz_e19 (zz_s2_1 ha0) b_11)) rfl in_X2_seek_X0 4 (by decide) (List.mem_of_getElem? (i := 8) rfl) rfl dX2_seek_91 ?_
          refine zz_iload_n C dX2_seek_94 rfl (lv_at hl 5 rfl) ?_
          refine zz_iald C (zz_lt (zz_s0_4 (zz_e19 (zz_s2_1 ha0) b_11)) (by decide)) (zz_c10 (zz_s0_4 (zz_e19 (zz_s2_1 ha0) b_11))) dX2_seek_95 ?_
          refine zz_i2l C dX2_seek_96 ?_
          refine zz_aload_n C dX2_seek_97 rfl (lv_at hl 4 rfl) ?_
          refine zz_get C (zz_lt ha1 (by decide)) (zz_c3 ha1) rfl in_X2_seek_X3 2 (by decide) (List.mem_of_getElem? (i := 9) rfl) rfl dX2_seek_98 ?_
          refine zz_iload_n C dX2_seek_101 rfl (lv_at hl 5 rfl) ?_
          refine zz_lald C (zz_lt (zz_s3_2 ha1) (by decide)) (zz_c16 (zz_s3_2 ha1)) dX2_seek_102 ?_
          refine zz_lcmp C dX2_seek_103 ?_
          refine zz_if_ne (tgt := 123) C dX2_seek_104 (by decide) (fun c_12 => ?_) (fun c_12 => ?_)
          · refine zz_aload_n C dX2_seek_107 rfl (lv_at hl 3 rfl) ?_
            refine zz_aload_n C dX2_seek_108 rfl (lv_at hl 4 rfl) ?_
            refine zz_iload_n C dX2_seek_109 rfl (lv_at hl 5 rfl) ?_
            refine zz_iconst (v := 1) C dX2_seek_110 (by decide) ?_
            refine zz_iadd C dX2_seek_111 ?_
            refine zz_iconst (v := 4) C dX2_seek_112 (by decide) ?_
            refine zz_iload_n C dX2_seek_113 rfl (lv_at hl 6 rfl) ?_
            refine zz_imul C dX2_seek_114 ?_
            refine zz_iload C dX2_seek_115 (lv_at hl 8 rfl) ?_
            refine zz_iadd C dX2_seek_117 ?_
            refine zz_callVi (As := [.ref (E.1 + a1), .int (x2 + (1 : Int32)), .int (((4 : Int32) * x3) + x5)]) (rest := []) C (mrec a0 a1 (x2 + (1 : Int32)) (((4 : Int32) * x3) + x5) ha0 ha1 M_8) (cwV 3 C.1.2.2.2.2 gX2_seek_X2_seek rfl rfl rfl hdV_X2_seek ⟨by simp only [zz_rm]; omega, by simp only [zz_rm]; omega⟩) (zz_lt ha0 (by decide)) (zz_c2 ha0) rfl rfl hl.1 rfl (Nat.le_of_ble_eq_true rfl) dX2_seek_118 (fun r_13 M_14 => ?_)
            refine zz_istored (lv' := [(4, .int r_13), (8, .int x8_7), (7, .int x7_6), (6, .ref (E.1 + (((a0 + 1) + 1) + 1 + zz_n x5))), (0, .ref (E.1 + a0)), (1, .ref (E.1 + a1)), (2, .int x2), (3, .int x3), (5, .int x5)]) C dX2_seek_121 hl (by decide) rfl (fun ls hl => ?_)
            exact wb_X2_seek_123 C hr mrec ih a0 a1 x2 x3 r_13 x5 (((a0 + 1) + 1) + 1 + zz_n x5) x7_6 x8_7 ha0 ha1 (zz_e21 (zz_s7_0 (zz_s2_0 ha0)) b_5) M_14 ls (lv_sub hl [4, 5, 6, 7, 0, 8, 3, 2, 1] rfl)
          · exact wb_X2_seek_123 C hr mrec ih a0 a1 x2 x3 x4 x5 (((a0 + 1) + 1) + 1 + zz_n x5) x7_6 x8_7 ha0 ha1 (zz_e21 (zz_s7_0 (zz_s2_0 ha0)) b_5) M_8 ls (lv_sub hl [3, 4, 5, 6, 7, 8, 2, 1, 0] rfl)
        · exact wb_X2_seek_123 C hr mrec ih a0 a1 x2 x3 x4 x5 (((a0 + 1) + 1) + 1 + zz_n x5) x7_6 x8_7 ha0 ha1 (zz_e21 (zz_s7_0 (zz_s2_0 ha0)) b_5) M_8 ls (lv_sub hl [3, 4, 5, 6, 7, 8, 2, 1, 0] rfl)
def f_X2_seekR : Nat → Nat → Nat → Int32 → Int32 → zz_M → Option (Int32 × zz_M)
  | 0 => fun _ _ _ _ _ => none
  | n + 1 => fun a0 a1 x2 x3 M => (if (zz_i M a1 1) ≤ x2 then some (x3, M) else (if x2 < (6 : Int32) then b_X2_seek_22 (f_X2_seekR n)  zz_fuel a0 a1 x2 x3 (-1 : Int32) (0 : Int32) M else some (x3, M)))
set_option maxRecDepth 100000 in
set_option maxHeartbeats 4000000 in
theorem m_X2_seekR (l : Launch) (E : zz_E) : ∀ (d : Nat) (a0 : Nat) (a1 : Nat) (x2 : Int32) (x3 : Int32) (h0 : zz_sh a0 = 2) (h1 : zz_sh a1 = 3) (M : zz_M), zz_Met (zz_pi E) l yX2_seek wsX2_seek (d + 5) E [.ref (E.1 + a0), .ref (E.1 + a1), .int x2, .int x3] M (f_X2_seekR d a0 a1 x2 x3 M) := by
  intro d
  induction d with
  | zero => intro a0 a1 x2 x3 h0 h1 M r M1 h; nomatch h
  | succ d mrec =>
    intro a0 a1 x2 x3 h0 h1 M
    rw [f_X2_seekR]
    refine zz_met (cc := cX2_seek) (nL := 9) (ret := (some .int)) (by decide) rfl (Nat.le_of_ble_eq_true rfl) ?_
    intro p e s m below meth c C hr ls hl
    have C : zz_C E RX2 cX2_seek 9 wsX2_seek p s m [.ref (E.1 + a0), .ref (E.1 + a1), .int x2, .int x3].toArray meth c := C
    have hl : lv_has ls 9 [(0, .ref (E.1 + a0)), (1, .ref (E.1 + a1)), (2, .int x2), (3, .int x3)] := hl
    refine zz_iload_n C dX2_seek_0 rfl (lv_at hl 2 rfl) ?_
    refine zz_aload_n C dX2_seek_1 rfl (lv_at hl 1 rfl) ?_
    refine zz_get C (zz_lt h1 (by decide)) (zz_c3 h1) rfl in_X2_seek_X3 1 (by decide) (List.mem_of_getElem? (i := 1) rfl) rfl dX2_seek_2 ?_
    refine zz_icmp_ge (tgt := 14) C dX2_seek_5 (by decide) (fun c_1 => ?_) (fun c_1 => ?_)
    · refine zz_iload_n C dX2_seek_14 rfl (lv_at hl 3 rfl) ?_
      exact zz_iret C hr dX2_seek_15
    · refine zz_iload_n C dX2_seek_8 rfl (lv_at hl 2 rfl) ?_
      refine zz_bipush (v := 6) C dX2_seek_9 (by decide) ?_
      refine zz_icmp_lt (tgt := 16) C dX2_seek_11 (by decide) (fun c_2 => ?_) (fun c_2 => ?_)
      · refine zz_iconst (v := -1) C dX2_seek_16 (by decide) ?_
        refine zz_istored (lv' := [(4, .int (-1 : Int32)), (0, .ref (E.1 + a0)), (1, .ref (E.1 + a1)), (2, .int x2), (3, .int x3)]) C dX2_seek_17 hl (by decide) rfl (fun ls hl => ?_)
        refine zz_iconst (v := 0) C dX2_seek_19 (by decide) ?_
        refine zz_istored (lv' := [(5, .int (0 : Int32)), (4, .int (-1 : Int32)), (0, .ref (E.1 + a0)), (1, .ref (E.1 + a1)), (2, .int x2), (3, .int x3)]) C dX2_seek_20 hl (by decide) rfl (fun ls hl => ?_)
        exact wb_X2_seek_22 C hr mrec  zz_fuel a0 a1 x2 x3 (-1 : Int32) (0 : Int32) h0 h1 M ls (lv_sub hl [2, 3, 4, 5, 1, 0] rfl)
      · refine zz_iload_n C dX2_seek_14 rfl (lv_at hl 3 rfl) ?_
        exact zz_iret C hr dX2_seek_15
def f_X2_seek (a0 : Nat) (a1 : Nat) (x2 : Int32) (x3 : Int32) (M : zz_M) : Option (Int32 × zz_M) := f_X2_seekR 8 a0 a1 x2 x3 M
theorem m_X2_seek (l : Launch) (E : zz_E) (a0 : Nat) (a1 : Nat) (x2 : Int32) (x3 : Int32) (h0 : zz_sh a0 = 2) (h1 : zz_sh a1 = 3) (M : zz_M) : zz_Met (zz_pi E) l yX2_seek wsX2_seek 13 E [.ref (E.1 + a0), .ref (E.1 + a1), .int x2, .int x3] M (f_X2_seek a0 a1 x2 x3 M) := m_X2_seekR l E 8 a0 a1 x2 x3 h0 h1 M
-- X2_rowThatMade ('X2', 'rowThatMade', '(LFortyDips$Vats;LFortyDips$Sheet;I)I')
theorem in_X2_rowThatMade_X0 : ∀ w ∈ u_ws RX0 TX0 5, w ∈ wsX2_rowThatMade := fun _ h => List.mem_cons_of_mem _ (List.mem_append_left _ (List.mem_append_left _ (List.mem_append_left _ (List.mem_append_right _ h))))
theorem in_X2_rowThatMade_X2 : ∀ w ∈ u_ws RX2 TX2 7, w ∈ wsX2_rowThatMade := fun _ h => List.mem_cons_of_mem _ (List.mem_append_left _ (List.mem_append_left _ (List.mem_append_left _ (List.mem_append_left _ (List.mem_append_right _ h)))))
def f_X2_rowThatMade (a0 : Nat) (a1 : Nat) (a2 : Nat) (x3 : Int32) (M : zz_M) : Option (Int32 × zz_M) := zz_bd (f_X7_become (a0 + 1) a1 M) (fun _ M_1 => (if zz_in (0 : Int32) 7 = true then zz_bd (f_X0_strip ((a0 + 7) + 1 + 2 * zz_n (0 : Int32)) M_1) (fun _ M_3 => (if zz_in (0 : Int32) 7 = true then zz_w (zz_si M_3 ((a0 + 7) + 1 + 2 * zz_n (0 : Int32)) 0 x3) (fun M_5 => zz_bd (f_X2_seek a0 a2 (0 : Int32) (0 : Int32) M_5) (fun r_6 M_7 => some (r_6, M_7))) else none)) else none))
set_option maxRecDepth 100000 in
set_option maxHeartbeats 4000000 in
theorem m_X2_rowThatMade (l : Launch) (E : zz_E) (a0 : Nat) (a1 : Nat) (a2 : Nat) (x3 : Int32) (h0 : zz_sh a0 = 2) (h1 : zz_sh a1 = 7) (h2 : zz_sh a2 = 3) (M : zz_M) : zz_Met (zz_pi E) l yX2_rowThatMade wsX2_rowThatMade 14 E [.ref (E.1 + a0), .ref (E.1 + a1), .ref (E.1 + a2), .int x3] M (f_X2_rowThatMade a0 a1 a2 x3 M) := by
  refine zz_met (cc := cX2_rowThatMade) (nL := 4) (ret := (some .int)) (by decide) rfl (Nat.le_of_ble_eq_true rfl) ?_
  intro p e s m below meth c C hr ls hl
  have C : zz_C E RX2 cX2_rowThatMade 4 wsX2_rowThatMade p s m [.ref (E.1 + a0), .ref (E.1 + a1), .ref (E.1 + a2), .int x3].toArray meth c := C
  have hl : lv_has ls 4 [(0, .ref (E.1 + a0)), (1, .ref (E.1 + a1)), (2, .ref (E.1 + a2)), (3, .int x3)] := hl
  unfold f_X2_rowThatMade
  refine zz_aload_n C dX2_rowThatMade_0 rfl (lv_at hl 0 rfl) ?_
  refine zz_get C (zz_lt h0 (by decide)) (zz_c2 h0) rfl in_X2_rowThatMade_X2 0 (by decide) (List.mem_of_getElem? (i := 1) rfl) rfl dX2_rowThatMade_1 ?_
  refine zz_aload_n C dX2_rowThatMade_4 rfl (lv_at hl 1 rfl) ?_
  refine zz_callVv (As := [.ref (E.1 + a1)]) (rest := []) C (m_X7_become l E (a0 + 1) a1 (zz_s2_0 h0) h1 M) (cwV 1 C.1.2.2.2.2 gX2_rowThatMade_X7_become rfl rfl rfl hdV_X7_become ⟨Nat.le_of_ble_eq_true rfl, Nat.le_of_ble_eq_true rfl⟩) (zz_lt (zz_s2_0 h0) (by decide)) (zz_c7 (zz_s2_0 h0)) rfl rfl hl.1 rfl (Nat.le_of_ble_eq_true rfl) dX2_rowThatMade_5 (fun _ M_1 => ?_)
  refine zz_aload_n C dX2_rowThatMade_8 rfl (lv_at hl 0 rfl) ?_
  refine zz_get C (zz_lt h0 (by decide)) (zz_c2 h0) rfl in_X2_rowThatMade_X2 1 (by decide) (List.mem_of_getElem? (i := 2) rfl) rfl dX2_rowThatMade_9 ?_
  refine zz_iconst (v := 0) C dX2_rowThatMade_12 (by decide) ?_
  refine zz_aald (t := 2) (g := fun i => (a0 + 7) + 1 + 2 * i) C (zz_lt (zz_s2_1 h0) (by decide)) (zz_c19 (zz_s2_1 h0)) rfl dX2_rowThatMade_13 (fun b_2 => ?_)
  refine zz_callVv (As := []) (rest := []) C (m_X0_strip l E ((a0 + 7) + 1 + 2 * zz_n (0 : Int32)) (zz_e19 (zz_s2_1 h0) b_2) M_1) (cwV 0 C.1.2.2.2.2 gX2_rowThatMade_X0_strip rfl rfl rfl hdV_X0_strip ⟨Nat.le_of_ble_eq_true rfl, Nat.le_of_ble_eq_true rfl⟩) (zz_lt (zz_e19 (zz_s2_1 h0) b_2) (by decide)) (zz_c0 (zz_e19 (zz_s2_1 h0) b_2)) rfl rfl hl.1 rfl (Nat.le_of_ble_eq_true rfl) dX2_rowThatMade_14 (fun _ M_3 => ?_)
  refine zz_aload_n C dX2_rowThatMade_17 rfl (lv_at hl 0 rfl) ?_
  refine zz_get C (zz_lt h0 (by decide)) (zz_c2 h0) rfl in_X2_rowThatMade_X2 1 (by decide) (List.mem_of_getElem? (i := 2) rfl) rfl dX2_rowThatMade_18 ?_
  refine zz_iconst (v := 0) C dX2_rowThatMade_21 (by decide) ?_
  refine zz_aald (t := 2) (g := fun i => (a0 + 7) + 1 + 2 * i) C (zz_lt (zz_s2_1 h0) (by decide)) (zz_c19 (zz_s2_1 h0)) rfl dX2_rowThatMade_22 (fun b_4 => ?_)
  refine zz_iload_n C dX2_rowThatMade_23 rfl (lv_at hl 3 rfl) ?_
  refine zz_put (M1 := zz_si M_3 ((a0 + 7) + 1 + 2 * zz_n (0 : Int32)) 0 x3) C (zz_lt (zz_e19 (zz_s2_1 h0) b_4) (by decide)) (zz_c0 (zz_e19 (zz_s2_1 h0) b_4)) rfl in_X2_rowThatMade_X0 tyX0 tyX0_ok nmX0 0 (by decide) (List.mem_of_getElem? (i := 3) rfl) rfl rfl rfl (Nat.le_of_ble_eq_true rfl) (zz_p0_0 (zz_e19 (zz_s2_1 h0) b_4)) zz_cell_si dX2_rowThatMade_24 (fun M_5 => ?_)
  refine zz_aload_n C dX2_rowThatMade_27 rfl (lv_at hl 0 rfl) ?_
  refine zz_aload_n C dX2_rowThatMade_28 rfl (lv_at hl 2 rfl) ?_
  refine zz_iconst (v := 0) C dX2_rowThatMade_29 (by decide) ?_
  refine zz_iconst (v := 0) C dX2_rowThatMade_30 (by decide) ?_
  refine zz_callVi (As := [.ref (E.1 + a2), .int (0 : Int32), .int (0 : Int32)]) (rest := []) C (m_X2_seek l E a0 a2 (0 : Int32) (0 : Int32) h0 h2 M_5) (cwV 3 C.1.2.2.2.2 gX2_rowThatMade_X2_seek rfl rfl rfl hdV_X2_seek ⟨Nat.le_of_ble_eq_true rfl, Nat.le_of_ble_eq_true rfl⟩) (zz_lt h0 (by decide)) (zz_c2 h0) rfl rfl hl.1 rfl (Nat.le_of_ble_eq_true rfl) dX2_rowThatMade_31 (fun r_6 M_7 => ?_)
  exact zz_iret C hr dX2_rowThatMade_34
-- J7_fill_d0a16 ('J7', 'fill', '([JJ)V')
def b_J7_fill_d0a16_6 : Nat → Nat → Int64 → Int32 → Int32 → zz_M → Option (Unit × zz_M)
  | 0 => fun _ _ _ _ _ => none
  | n + 1 => fun a0 y1 x3 x4 M => (if x4 ≤ x3 then some ((), M) else (if zz_in x3 40 = true then zz_w (zz_sj M a0 (zz_n x3) y1) (fun M_2 => zz_w (x3 + (1 : Int32)) (fun x3_3 => (b_J7_fill_d0a16_6 n) a0 y1 x3_3 x4 M_2)) else none))
set_option maxRecDepth 100000 in
set_option maxHeartbeats 4000000 in
theorem wb_J7_fill_d0a16_6 {p : Program} {l : Launch} {e : Env} {s : State} {m : MethodId} {args : Array Value} {below : List Frame} {meth : Method} {c : Code} {E : zz_E} (C : zz_C E RJ7 cJ7_fill_d0a16 5 wsJ7_fill_d0a16 p s m args meth c) (hr : meth.sig.returnType = none) : ∀ (n : Nat) (a0 : Nat) (y1 : Int64) (x3 : Int32) (x4 : Int32) (ha0 : zz_sh a0 = 16) (M : zz_M) (ls : Array Slot), lv_has ls 5 [(0, .ref (E.1 + a0)), (1, .long y1), (3, .int x3), (4, .int x4)] → zz_Z E p l e (zz_rm 1) s m args below meth c (zz_Q (zz_pv E) E below args s) (b_J7_fill_d0a16_6 n a0 y1 x3 x4 M) M (F0 m 6 ls []) := by
  intro n
  induction n with
  | zero => intro a0 y1 x3 x4 ha0 M ls hl; exact zz_none
  | succ n ih =>
    intro a0 y1 x3 x4 ha0 M ls hl
    rw [b_J7_fill_d0a16_6]
    refine zz_iload_n C dJ7_fill_d0a16_6 rfl (lv_at hl 2 rfl) ?_
    refine zz_iload C dJ7_fill_d0a16_7 (lv_at hl 3 rfl) ?_
    refine zz_icmp_ge (tgt := 22) C dJ7_fill_d0a16_9 (by decide) (fun c_1 => ?_) (fun c_1 => ?_)
    · exact zz_vret C hr dJ7_fill_d0a16_22
    · refine zz_aload_n C dJ7_fill_d0a16_12 rfl (lv_at hl 0 rfl) ?_
      refine zz_iload_n C dJ7_fill_d0a16_13 rfl (lv_at hl 2 rfl) ?_
      refine zz_lload_n C dJ7_fill_d0a16_14 rfl (lv_at hl 1 rfl) ?_
      refine zz_last C (zz_lt ha0 (by decide)) (fun _ => zz_c16 ha0) dJ7_fill_d0a16_15 (fun M_2 => ?_)
      refine zz_iinc (k9 := 2) (d := 1) C (fun x3_3 => [(3, .int x3_3), (0, .ref (E.1 + a0)), (1, .long y1), (4, .int x4)]) dJ7_fill_d0a16_16 hl rfl (by decide) (by decide) (fun _ => rfl) (fun x3_3 ls hl => ?_)
      refine zz_goto (tgt := 6) C dJ7_fill_d0a16_19 (by decide) ?_
      exact ih a0 y1 x3_3 x4 ha0 M_2 ls (lv_sub hl [1, 2, 0, 3] rfl)
def f_J7_fill_d0a16 (a0 : Nat) (y1 : Int64) (M : zz_M) : Option (Unit × zz_M) := b_J7_fill_d0a16_6  zz_fuel a0 y1 (0 : Int32) (40 : Int32) M
set_option maxRecDepth 100000 in
set_option maxHeartbeats 4000000 in
theorem m_J7_fill_d0a16 (l : Launch) (E : zz_E) (a0 : Nat) (y1 : Int64) (h0 : zz_sh a0 = 16) (M : zz_M) : zz_Met (zz_pv E) l yJ7_fill_d0a16 wsJ7_fill_d0a16 1 E [.ref (E.1 + a0), .long y1] M (f_J7_fill_d0a16 a0 y1 M) := by
  refine zz_met (cc := cJ7_fill_d0a16) (nL := 5) (ret := none) (by decide) rfl (Nat.le_of_ble_eq_true rfl) ?_
  intro p e s m below meth c C hr ls hl
  have C : zz_C E RJ7 cJ7_fill_d0a16 5 wsJ7_fill_d0a16 p s m [.ref (E.1 + a0), .long y1].toArray meth c := C
  have hl : lv_has ls 5 [(0, .ref (E.1 + a0)), (1, .long y1)] := hl
  unfold f_J7_fill_d0a16
  refine zz_iconst (v := 0) C dJ7_fill_d0a16_0 (by decide) ?_
  refine zz_istored_n (lv' := [(3, .int (0 : Int32)), (0, .ref (E.1 + a0)), (1, .long y1)]) C dJ7_fill_d0a16_1 rfl hl (by decide) rfl (fun ls hl => ?_)
  refine zz_aload_n C dJ7_fill_d0a16_2 rfl (lv_at hl 1 rfl) ?_
  refine zz_alen (n := 0) (t := 1) (v := 40) C (zz_lt h0 (by decide)) (zz_c16 h0) rfl rfl dJ7_fill_d0a16_3 ?_
  refine zz_istored (lv' := [(4, .int (40 : Int32)), (3, .int (0 : Int32)), (0, .ref (E.1 + a0)), (1, .long y1)]) C dJ7_fill_d0a16_4 hl (by decide) rfl (fun ls hl => ?_)
  exact wb_J7_fill_d0a16_6 C hr  zz_fuel a0 y1 (0 : Int32) (40 : Int32) h0 M ls (lv_sub hl [2, 3, 1, 0] rfl)
-- X3_isMissing ('X3', 'isMissing', '()Z')
theorem in_X3_isMissing_X3 : ∀ w ∈ u_ws RX3 TX3 3, w ∈ wsX3_isMissing := fun _ h => List.mem_cons_of_mem _ (List.mem_append_right _ h)
def f_X3_isMissing (a0 : Nat) (M : zz_M) : Option (Int32 × zz_M) := (if (zz_i M a0 0) = 0 then some ((1 : Int32), M) else some ((0 : Int32), M))
set_option maxRecDepth 100000 in
set_option maxHeartbeats 4000000 in
theorem m_X3_isMissing (l : Launch) (E : zz_E) (a0 : Nat) (h0 : zz_sh a0 = 3) (M : zz_M) : zz_Met (zz_pi E) l yX3_isMissing wsX3_isMissing 1 E [.ref (E.1 + a0)] M (f_X3_isMissing a0 M) := by
  refine zz_met (cc := cX3_isMissing) (nL := 1) (ret := (some .boolean)) (by decide) rfl (Nat.le_of_ble_eq_true rfl) ?_
  intro p e s m below meth c C hr ls hl
  have C : zz_C E RX3 cX3_isMissing 1 wsX3_isMissing p s m [.ref (E.1 + a0)].toArray meth c := C
  have hl : lv_has ls 1 [(0, .ref (E.1 + a0))] := hl
  unfold f_X3_isMissing
  refine zz_aload_n C dX3_isMissing_0 rfl (lv_at hl 0 rfl) ?_
  refine zz_get C (zz_lt h0 (by decide)) (zz_c3 h0) rfl in_X3_isMissing_X3 0 (by decide) (List.mem_of_getElem? (i := 1) rfl) rfl dX3_isMissing_1 ?_
  refine zz_if_ne (tgt := 11) C dX3_isMissing_4 (by decide) (fun c_1 => ?_) (fun c_1 => ?_)
  · refine zz_iconst (v := 1) C dX3_isMissing_7 (by decide) ?_
    refine zz_goto (tgt := 12) C dX3_isMissing_8 (by decide) ?_
    exact zz_zretl C (v := (1 : Int32)) rfl hr dX3_isMissing_12
  · refine zz_iconst (v := 0) C dX3_isMissing_11 (by decide) ?_
    exact zz_zretl C (v := (0 : Int32)) rfl hr dX3_isMissing_12
-- X3_lay ('X3', 'lay', '(II)V')
theorem in_X3_lay_X3 : ∀ w ∈ u_ws RX3 TX3 3, w ∈ wsX3_lay := fun _ h => List.mem_cons_of_mem _ (List.mem_append_right _ h)
theorem hdS_J7_fill_d0a16 : yJ7_fill_d0a16.cls ≠ "java/lang/invoke/MethodHandle" ∧ yJ7_fill_d0a16.cls ≠ "java/lang/invoke/VarHandle" ∧ (parseMethodDescriptor yJ7_fill_d0a16.desc).map (fun d => d.parameters.length) = some 2 := by decide +kernel
def b_X3_lay_15 (a0 : Nat) (st0 : Int32) (rt1 : Nat) (M : zz_M) : Option (Unit × zz_M) := zz_w (zz_si M rt1 1 st0) (fun M_3 => zz_bd (f_J7_fill_d0a16 (a0 + 1) (0 : Int64) M_3) (fun _ M_4 => some ((), M_4)))
set_option maxRecDepth 100000 in
set_option maxHeartbeats 4000000 in
theorem wb_X3_lay_15 {p : Program} {l : Launch} {e : Env} {s : State} {m : MethodId} {args : Array Value} {below : List Frame} {meth : Method} {c : Code} {E : zz_E} (C : zz_C E RX3 cX3_lay 3 wsX3_lay p s m args meth c) (hr : meth.sig.returnType = none) : ∀ (a0 : Nat) (st0 : Int32) (rt1 : Nat) (ha0 : zz_sh a0 = 3) (hrt1 : zz_sh rt1 = 3) (M : zz_M) (ls : Array Slot), lv_has ls 3 [(0, .ref (E.1 + a0))] → zz_Z E p l e (zz_rm 2) s m args below meth c (zz_Q (zz_pv E) E below args s) (b_X3_lay_15 a0 st0 rt1 M) M (F0 m 15 ls [.int st0, .ref (E.1 + rt1)]) := by
  intro a0 st0 rt1 ha0 hrt1 M ls hl
  unfold b_X3_lay_15
  refine zz_put (M1 := zz_si M rt1 1 st0) C (zz_lt hrt1 (by decide)) (zz_c3 hrt1) rfl in_X3_lay_X3 tyX3 tyX3_ok nmX3 1 (by decide) (List.mem_of_getElem? (i := 2) rfl) rfl rfl rfl (Nat.le_of_ble_eq_true rfl) (zz_p3_1 hrt1) zz_cell_si dX3_lay_15 (fun M_3 => ?_)
  refine zz_aload_n C dX3_lay_18 rfl (lv_at hl 0 rfl) ?_
  refine zz_get C (zz_lt ha0 (by decide)) (zz_c3 ha0) rfl in_X3_lay_X3 2 (by decide) (List.mem_of_getElem? (i := 3) rfl) rfl dX3_lay_19 ?_
  refine zz_lconst (v := 0) C dX3_lay_22 rfl ?_
  refine zz_callSv (As := [.ref (E.1 + (a0 + 1)), .long (0 : Int64)]) (rest := []) C (m_J7_fill_d0a16 l E (a0 + 1) (0 : Int64) (zz_s3_2 ha0) M_3) (va_cwS 2 C.1.2.2.2.2 gX3_lay_J7_fill_d0a16 rfl rfl rfl hdS_J7_fill_d0a16 ⟨Nat.le_of_ble_eq_true rfl, Nat.le_of_ble_eq_true rfl⟩) rfl hl.1 rfl (Nat.le_of_ble_eq_true rfl) dX3_lay_23 (fun _ M_4 => ?_)
  exact zz_vret C hr dX3_lay_26
def f_X3_lay (a0 : Nat) (x1 : Int32) (x2 : Int32) (M : zz_M) : Option (Unit × zz_M) := zz_w (zz_si M a0 0 x1) (fun M_1 => (if x1 = 0 then b_X3_lay_15  a0 (0 : Int32) a0 M_1 else b_X3_lay_15  a0 x2 a0 M_1))
set_option maxRecDepth 100000 in
set_option maxHeartbeats 4000000 in
theorem m_X3_lay (l : Launch) (E : zz_E) (a0 : Nat) (x1 : Int32) (x2 : Int32) (h0 : zz_sh a0 = 3) (M : zz_M) : zz_Met (zz_pv E) l yX3_lay wsX3_lay 2 E [.ref (E.1 + a0), .int x1, .int x2] M (f_X3_lay a0 x1 x2 M) := by
  refine zz_met (cc := cX3_lay) (nL := 3) (ret := none) (by decide) rfl (Nat.le_of_ble_eq_true rfl) ?_
  intro p e s m below meth c C hr ls hl
  have C : zz_C E RX3 cX3_lay 3 wsX3_lay p s m [.ref (E.1 + a0), .int x1, .int x2].toArray meth c := C
  have hl : lv_has ls 3 [(0, .ref (E.1 + a0)), (1, .int x1), (2, .int x2)] := hl
  unfold f_X3_lay
  refine zz_aload_n C dX3_lay_0 rfl (lv_at hl 0 rfl) ?_
  refine zz_iload_n C dX3_lay_1 rfl (lv_at hl 1 rfl) ?_
  refine zz_put (M1 := zz_si M a0 0 x1) C (zz_lt h0 (by decide)) (zz_c3 h0) rfl in_X3_lay_X3 tyX3 tyX3_ok nmX3 0 (by decide) (List.mem_of_getElem? (i := 1) rfl) rfl rfl rfl (Nat.le_of_ble_eq_true rfl) (zz_p3_0 h0) zz_cell_si dX3_lay_2 (fun M_1 => ?_)
  refine zz_aload_n C dX3_lay_5 rfl (lv_at hl 0 rfl) ?_
  refine zz_iload_n C dX3_lay_6 rfl (lv_at hl 1 rfl) ?_
  refine zz_if_ne (tgt := 14) C dX3_lay_7 (by decide) (fun c_2 => ?_) (fun c_2 => ?_)
  · refine zz_iconst (v := 0) C dX3_lay_10 (by decide) ?_
    refine zz_goto (tgt := 15) C dX3_lay_11 (by decide) ?_
    exact wb_X3_lay_15 C hr  a0 (0 : Int32) a0 h0 h0 M_1 ls (lv_sub hl [0] rfl)
  · refine zz_iload_n C dX3_lay_14 rfl (lv_at hl 2 rfl) ?_
    exact wb_X3_lay_15 C hr  a0 x2 a0 h0 h0 M_1 ls (lv_sub hl [0] rfl)
-- X3_put ('X3', 'put', '(IJ)V')
theorem in_X3_put_X3 : ∀ w ∈ u_ws RX3 TX3 3, w ∈ wsX3_put := fun _ h => List.mem_cons_of_mem _ (List.mem_append_right _ h)
def f_X3_put (a0 : Nat) (x1 : Int32) (y2 : Int64) (M : zz_M) : Option (Unit × zz_M) := zz_bd (f_X8_within x1 (0 : Int32) ((zz_i M a0 1) - (1 : Int32)) M) (fun r_1 M_2 => (if r_1 = 0 then some ((), M_2) else (if (zz_i M_2 a0 0) = (8 : Int32) then (if zz_in x1 40 = true then zz_w (zz_sj M_2 (a0 + 1) (zz_n x1) (((y2.toInt32).toInt8.toInt32).toInt64)) (fun M_5 => some ((), M_5)) else none) else (if (zz_i M_2 a0 0) = (16 : Int32) then (if zz_in x1 40 = true then zz_w (zz_sj M_2 (a0 + 1) (zz_n x1) (((y2.toInt32).toInt16.toInt32).toInt64)) (fun M_7 => some ((), M_7)) else none) else (if zz_in x1 40 = true then zz_w (zz_sj M_2 (a0 + 1) (zz_n x1) y2) (fun M_8 => some ((), M_8)) else none)))))
set_option maxRecDepth 100000 in
set_option maxHeartbeats 4000000 in
theorem m_X3_put (l : Launch) (E : zz_E) (a0 : Nat) (x1 : Int32) (y2 : Int64) (h0 : zz_sh a0 = 3) (M : zz_M) : zz_Met (zz_pv E) l yX3_put wsX3_put 2 E [.ref (E.1 + a0), .int x1, .long y2] M (f_X3_put a0 x1 y2 M) := by
  refine zz_met (cc := cX3_put) (nL := 4) (ret := none) (by decide) rfl (Nat.le_of_ble_eq_true rfl) ?_
  intro p e s m below meth c C hr ls hl
  have C : zz_C E RX3 cX3_put 4 wsX3_put p s m [.ref (E.1 + a0), .int x1, .long y2].toArray meth c := C
  have hl : lv_has ls 4 [(0, .ref (E.1 + a0)), (1, .int x1), (2, .long y2)] := hl
  unfold f_X3_put
  refine zz_iload_n C dX3_put_0 rfl (lv_at hl 1 rfl) ?_
  refine zz_iconst (v := 0) C dX3_put_1 (by decide) ?_
  refine zz_aload_n C dX3_put_2 rfl (lv_at hl 0 rfl) ?_
  refine zz_get C (zz_lt h0 (by decide)) (zz_c3 h0) rfl in_X3_put_X3 1 (by decide) (List.mem_of_getElem? (i := 1) rfl) rfl dX3_put_3 ?_
  refine zz_iconst (v := 1) C dX3_put_6 (by decide) ?_
  refine zz_isub C dX3_put_7 ?_
  refine zz_callNi (As := [.int x1, .int (0 : Int32), .int ((zz_i M a0 1) - (1 : Int32))]) (rest := []) C (m_X8_within l E x1 (0 : Int32) ((zz_i M a0 1) - (1 : Int32))  M) ⟨va_cnB 3 C.1.2.2.2.2 gX3_put_X8_within_n28 rfl rfl rfl C.2.1.2.1.2.2.2.2.1 (C.1.2.2.2.2 _ (List.mem_of_getElem? (i := 5) rfl)) hdS_X8_within ⟨Nat.le_of_ble_eq_true rfl, Nat.le_of_ble_eq_true rfl⟩, C.1.2.2.2.2 _ (List.mem_of_getElem? (i := 4) rfl), trivial⟩ rfl hl.1 rfl (Nat.le_of_ble_eq_true rfl) dX3_put_8 (fun r_1 M_2 => ?_)
  refine zz_if_ne (tgt := 15) C dX3_put_11 (by decide) (fun c_3 => ?_) (fun c_3 => ?_)
  · exact zz_vret C hr dX3_put_14
  · refine zz_aload_n C dX3_put_15 rfl (lv_at hl 0 rfl) ?_
    refine zz_get C (zz_lt h0 (by decide)) (zz_c3 h0) rfl in_X3_put_X3 0 (by decide) (List.mem_of_getElem? (i := 2) rfl) rfl dX3_put_16 ?_
    refine zz_ite (fun c_4 => ?_) (fun c_4 => ?_)
    · refine zz_look (tgt := 44) C dX3_put_19 (by decide) (by first | (rw [c_4]; done) | (rw [c_4]; rfl)) (by decide) ?_
      refine zz_aload_n C dX3_put_44 rfl (lv_at hl 0 rfl) ?_
      refine zz_get C (zz_lt h0 (by decide)) (zz_c3 h0) rfl in_X3_put_X3 2 (by decide) (List.mem_of_getElem? (i := 3) rfl) rfl dX3_put_45 ?_
      refine zz_iload_n C dX3_put_48 rfl (lv_at hl 1 rfl) ?_
      refine zz_lload_n C dX3_put_49 rfl (lv_at hl 2 rfl) ?_
      refine zz_l2i C dX3_put_50 ?_
      refine zz_i2b C dX3_put_51 ?_
      refine zz_i2l C dX3_put_52 ?_
      refine zz_last C (zz_lt (zz_s3_2 h0) (by decide)) (fun _ => zz_c16 (zz_s3_2 h0)) dX3_put_53 (fun M_5 => ?_)
      refine zz_goto (tgt := 77) C dX3_put_54 (by decide) ?_
      exact zz_vret C hr dX3_put_77
    · refine zz_ite (fun c_6 => ?_) (fun c_6 => ?_)
      · refine zz_look (tgt := 57) C dX3_put_19 (by decide) (by first | (rw [c_6]; done) | (rw [c_6]; rfl)) (by decide) ?_
        refine zz_aload_n C dX3_put_57 rfl (lv_at hl 0 rfl) ?_
        refine zz_get C (zz_lt h0 (by decide)) (zz_c3 h0) rfl in_X3_put_X3 2 (by decide) (List.mem_of_getElem? (i := 3) rfl) rfl dX3_put_58 ?_
        refine zz_iload_n C dX3_put_61 rfl (lv_at hl 1 rfl) ?_
        refine zz_lload_n C dX3_put_62 rfl (lv_at hl 2 rfl) ?_
        refine zz_l2i C dX3_put_63 ?_
        refine zz_i2s C dX3_put_64 ?_
        refine zz_i2l C dX3_put_65 ?_
        refine zz_last C (zz_lt (zz_s3_2 h0) (by decide)) (fun _ => zz_c16 (zz_s3_2 h0)) dX3_put_66 (fun M_7 => ?_)
        refine zz_goto (tgt := 77) C dX3_put_67 (by decide) ?_
        exact zz_vret C hr dX3_put_77
      · refine zz_look (tgt := 70) C dX3_put_19 (by decide) (by have q8 : (zz_i M_2 a0 0).toInt ≠ 8 := zz_ne c_4; have q16 : (zz_i M_2 a0 0).toInt ≠ 16 := zz_ne c_6; simp [Op.lookupswitch.offset, q8.symm, q8, q16.symm, q16]; rfl) (by decide) ?_
        refine zz_aload_n C dX3_put_70 rfl (lv_at hl 0 rfl) ?_
        refine zz_get C (zz_lt h0 (by decide)) (zz_c3 h0) rfl in_X3_put_X3 2 (by decide) (List.mem_of_getElem? (i := 3) rfl) rfl dX3_put_71 ?_
        refine zz_iload_n C dX3_put_74 rfl (lv_at hl 1 rfl) ?_
        refine zz_lload_n C dX3_put_75 rfl (lv_at hl 2 rfl) ?_
        refine zz_last C (zz_lt (zz_s3_2 h0) (by decide)) (fun _ => zz_c16 (zz_s3_2 h0)) dX3_put_76 (fun M_8 => ?_)
        exact zz_vret C hr dX3_put_77
-- X3_hasRun ('X3', 'hasRun', '(II)Z')
theorem in_X3_hasRun_X3 : ∀ w ∈ u_ws RX3 TX3 3, w ∈ wsX3_hasRun := fun _ h => List.mem_cons_of_mem _ (List.mem_append_right _ h)
def f_X3_hasRun (a0 : Nat) (x1 : Int32) (x2 : Int32) (M : zz_M) : Option (Int32 × zz_M) := (if x1 < 0 then some ((0 : Int32), M) else (if x2 < 0 then some ((0 : Int32), M) else (if (zz_i M a0 1) < x1 then some ((0 : Int32), M) else (if ((zz_i M a0 1) - x1) < x2 then some ((0 : Int32), M) else some ((1 : Int32), M)))))
set_option maxRecDepth 100000 in
set_option maxHeartbeats 4000000 in
theorem m_X3_hasRun (l : Launch) (E : zz_E) (a0 : Nat) (x1 : Int32) (x2 : Int32) (h0 : zz_sh a0 = 3) (M : zz_M) : zz_Met (zz_pi E) l yX3_hasRun wsX3_hasRun 1 E [.ref (E.1 + a0), .int x1, .int x2] M (f_X3_hasRun a0 x1 x2 M) := by
  refine zz_met (cc := cX3_hasRun) (nL := 3) (ret := (some .boolean)) (by decide) rfl (Nat.le_of_ble_eq_true rfl) ?_
  intro p e s m below meth c C hr ls hl
  have C : zz_C E RX3 cX3_hasRun 3 wsX3_hasRun p s m [.ref (E.1 + a0), .int x1, .int x2].toArray meth c := C
  have hl : lv_has ls 3 [(0, .ref (E.1 + a0)), (1, .int x1), (2, .int x2)] := hl
  unfold f_X3_hasRun
  refine zz_iload_n C dX3_hasRun_0 rfl (lv_at hl 1 rfl) ?_
  refine zz_if_lt (tgt := 30) C dX3_hasRun_1 (by decide) (fun c_1 => ?_) (fun c_1 => ?_)
  · refine zz_iconst (v := 0) C dX3_hasRun_30 (by decide) ?_
    exact zz_zretl C (v := (0 : Int32)) rfl hr dX3_hasRun_31
  · refine zz_iload_n C dX3_hasRun_4 rfl (lv_at hl 2 rfl) ?_
    refine zz_if_lt (tgt := 30) C dX3_hasRun_5 (by decide) (fun c_2 => ?_) (fun c_2 => ?_)
    · refine zz_iconst (v := 0) C dX3_hasRun_30 (by decide) ?_
      exact zz_zretl C (v := (0 : Int32)) rfl hr dX3_hasRun_31
    · refine zz_iload_n C dX3_hasRun_8 rfl (lv_at hl 1 rfl) ?_
      refine zz_aload_n C dX3_hasRun_9 rfl (lv_at hl 0 rfl) ?_
      refine zz_get C (zz_lt h0 (by decide)) (zz_c3 h0) rfl in_X3_hasRun_X3 1 (by decide) (List.mem_of_getElem? (i := 1) rfl) rfl dX3_hasRun_10 ?_
      refine zz_icmp_gt (tgt := 30) C dX3_hasRun_13 (by decide) (fun c_3 => ?_) (fun c_3 => ?_)
      · refine zz_iconst (v := 0) C dX3_hasRun_30 (by decide) ?_
        exact zz_zretl C (v := (0 : Int32)) rfl hr dX3_hasRun_31
      · refine zz_iload_n C dX3_hasRun_16 rfl (lv_at hl 2 rfl) ?_
        refine zz_aload_n C dX3_hasRun_17 rfl (lv_at hl 0 rfl) ?_
        refine zz_get C (zz_lt h0 (by decide)) (zz_c3 h0) rfl in_X3_hasRun_X3 1 (by decide) (List.mem_of_getElem? (i := 1) rfl) rfl dX3_hasRun_18 ?_
        refine zz_iload_n C dX3_hasRun_21 rfl (lv_at hl 1 rfl) ?_
        refine zz_isub C dX3_hasRun_22 ?_
        refine zz_icmp_gt (tgt := 30) C dX3_hasRun_23 (by decide) (fun c_4 => ?_) (fun c_4 => ?_)
        · refine zz_iconst (v := 0) C dX3_hasRun_30 (by decide) ?_
          exact zz_zretl C (v := (0 : Int32)) rfl hr dX3_hasRun_31
        · refine zz_iconst (v := 1) C dX3_hasRun_26 (by decide) ?_
          refine zz_goto (tgt := 31) C dX3_hasRun_27 (by decide) ?_
          exact zz_zretl C (v := (1 : Int32)) rfl hr dX3_hasRun_31
