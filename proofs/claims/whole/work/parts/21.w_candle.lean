-- X0_become ('X0', 'become', '(LFortyDips$Candle;)V')
theorem in_X0_become_X0 : ∀ w ∈ u_ws RX0 TX0 5, w ∈ wsX0_become := fun _ h => List.mem_cons_of_mem _ (List.mem_append_right _ h)
def f_X0_become (a0 : Nat) (a1 : Nat) (M : zz_M) : Option (Unit × zz_M) := zz_w (zz_si M a0 0 (zz_i M a1 0)) (fun M_1 => zz_w (zz_si M_1 a0 1 (zz_i M_1 a1 1)) (fun M_2 => zz_w (zz_si M_2 a0 2 (zz_i M_2 a1 2)) (fun M_3 => zz_w (zz_si M_3 a0 3 (zz_i M_3 a1 3)) (fun M_4 => (if zz_cpok (0 : Int32) (0 : Int32) (zz_i M_4 a0 1) 40 40 = true then zz_w (zz_ci M_4 (a1 + 1) (zz_n (0 : Int32)) (a0 + 1) (zz_n (0 : Int32)) (zz_n (zz_i M_4 a0 1))) (fun M_5 => some ((), M_5)) else none)))))
set_option maxRecDepth 100000 in
set_option maxHeartbeats 4000000 in
theorem m_X0_become (l : Launch) (E : zz_E) (a0 : Nat) (a1 : Nat) (h0 : zz_sh a0 = 0) (h1 : zz_sh a1 = 0) (M : zz_M) : zz_Met (zz_pv E) l yX0_become wsX0_become 1 E [.ref (E.1 + a0), .ref (E.1 + a1)] M (f_X0_become a0 a1 M) := by
  refine zz_met (cc := cX0_become) (nL := 2) (ret := none) (by decide) rfl (Nat.le_of_ble_eq_true rfl) ?_
  intro p e s m below meth c C hr ls hl
  have C : zz_C E RX0 cX0_become 2 wsX0_become p s m [.ref (E.1 + a0), .ref (E.1 + a1)].toArray meth c := C
  have hl : lv_has ls 2 [(0, .ref (E.1 + a0)), (1, .ref (E.1 + a1))] := hl
  unfold f_X0_become
  refine zz_aload_n C dX0_become_0 rfl (lv_at hl 0 rfl) ?_
  refine zz_aload_n C dX0_become_1 rfl (lv_at hl 1 rfl) ?_
  refine zz_get C (zz_lt h1 (by decide)) (zz_c0 h1) rfl in_X0_become_X0 0 (by decide) (List.mem_of_getElem? (i := 1) rfl) rfl dX0_become_2 ?_
  refine zz_put (M1 := zz_si M a0 0 (zz_i M a1 0)) C (zz_lt h0 (by decide)) (zz_c0 h0) rfl in_X0_become_X0 tyX0 tyX0_ok nmX0 0 (by decide) (List.mem_of_getElem? (i := 1) rfl) rfl rfl rfl (Nat.le_of_ble_eq_true rfl) (zz_p0_0 h0) zz_cell_si dX0_become_5 (fun M_1 => ?_)
  refine zz_aload_n C dX0_become_8 rfl (lv_at hl 0 rfl) ?_
  refine zz_aload_n C dX0_become_9 rfl (lv_at hl 1 rfl) ?_
  refine zz_get C (zz_lt h1 (by decide)) (zz_c0 h1) rfl in_X0_become_X0 1 (by decide) (List.mem_of_getElem? (i := 2) rfl) rfl dX0_become_10 ?_
  refine zz_put (M1 := zz_si M_1 a0 1 (zz_i M_1 a1 1)) C (zz_lt h0 (by decide)) (zz_c0 h0) rfl in_X0_become_X0 tyX0 tyX0_ok nmX0 1 (by decide) (List.mem_of_getElem? (i := 2) rfl) rfl rfl rfl (Nat.le_of_ble_eq_true rfl) (zz_p0_1 h0) zz_cell_si dX0_become_13 (fun M_2 => ?_)
  refine zz_aload_n C dX0_become_16 rfl (lv_at hl 0 rfl) ?_
  refine zz_aload_n C dX0_become_17 rfl (lv_at hl 1 rfl) ?_
  refine zz_get C (zz_lt h1 (by decide)) (zz_c0 h1) rfl in_X0_become_X0 2 (by decide) (List.mem_of_getElem? (i := 3) rfl) rfl dX0_become_18 ?_
  refine zz_put (M1 := zz_si M_2 a0 2 (zz_i M_2 a1 2)) C (zz_lt h0 (by decide)) (zz_c0 h0) rfl in_X0_become_X0 tyX0 tyX0_ok nmX0 2 (by decide) (List.mem_of_getElem? (i := 3) rfl) rfl rfl rfl (Nat.le_of_ble_eq_true rfl) (zz_p0_2 h0) zz_cell_si dX0_become_21 (fun M_3 => ?_)
  refine zz_aload_n C dX0_become_24 rfl (lv_at hl 0 rfl) ?_
  refine zz_aload_n C dX0_become_25 rfl (lv_at hl 1 rfl) ?_
  refine zz_get C (zz_lt h1 (by decide)) (zz_c0 h1) rfl in_X0_become_X0 3 (by decide) (List.mem_of_getElem? (i := 4) rfl) rfl dX0_become_26 ?_
  refine zz_put (M1 := zz_si M_3 a0 3 (zz_i M_3 a1 3)) C (zz_lt h0 (by decide)) (zz_c0 h0) rfl in_X0_become_X0 tyX0 tyX0_ok nmX0 3 (by decide) (List.mem_of_getElem? (i := 4) rfl) rfl rfl rfl (Nat.le_of_ble_eq_true rfl) (zz_p0_3 h0) zz_cell_si dX0_become_29 (fun M_4 => ?_)
  refine zz_aload_n C dX0_become_32 rfl (lv_at hl 1 rfl) ?_
  refine zz_get C (zz_lt h1 (by decide)) (zz_c0 h1) rfl in_X0_become_X0 4 (by decide) (List.mem_of_getElem? (i := 5) rfl) rfl dX0_become_33 ?_
  refine zz_iconst (v := 0) C dX0_become_36 (by decide) ?_
  refine zz_aload_n C dX0_become_37 rfl (lv_at hl 0 rfl) ?_
  refine zz_get C (zz_lt h0 (by decide)) (zz_c0 h0) rfl in_X0_become_X0 4 (by decide) (List.mem_of_getElem? (i := 5) rfl) rfl dX0_become_38 ?_
  refine zz_iconst (v := 0) C dX0_become_41 (by decide) ?_
  refine zz_aload_n C dX0_become_42 rfl (lv_at hl 0 rfl) ?_
  refine zz_get C (zz_lt h0 (by decide)) (zz_c0 h0) rfl in_X0_become_X0 1 (by decide) (List.mem_of_getElem? (i := 2) rfl) rfl dX0_become_43 ?_
  refine zz_acopyi C hl.1 (zz_lt (zz_s0_4 h1) (by decide)) (zz_lt (zz_s0_4 h0) (by decide)) (zz_c10 (zz_s0_4 h1)) (fun _ => zz_c10 (zz_s0_4 h0)) (List.mem_of_getElem? (i := 6) rfl) (List.mem_of_getElem? (i := 7) rfl) (List.mem_of_getElem? (i := 8) rfl) (List.mem_of_getElem? (i := 9) rfl) (Nat.le_of_ble_eq_true rfl) (Nat.le_of_ble_eq_true rfl) dX0_become_46 (fun M_5 => ?_)
  exact zz_vret C hr dX0_become_49
-- X0_strip ('X0', 'strip', '()V')
theorem in_X0_strip_X0 : ∀ w ∈ u_ws RX0 TX0 5, w ∈ wsX0_strip := fun _ h => List.mem_cons_of_mem _ (List.mem_append_right _ h)
def f_X0_strip (a0 : Nat) (M : zz_M) : Option (Unit × zz_M) := zz_w (zz_si M a0 1 (0 : Int32)) (fun M_1 => zz_w (zz_si M_1 a0 2 (0 : Int32)) (fun M_2 => zz_w (zz_si M_2 a0 3 (0 : Int32)) (fun M_3 => some ((), M_3))))
set_option maxRecDepth 100000 in
set_option maxHeartbeats 4000000 in
theorem m_X0_strip (l : Launch) (E : zz_E) (a0 : Nat) (h0 : zz_sh a0 = 0) (M : zz_M) : zz_Met (zz_pv E) l yX0_strip wsX0_strip 1 E [.ref (E.1 + a0)] M (f_X0_strip a0 M) := by
  refine zz_met (cc := cX0_strip) (nL := 1) (ret := none) (by decide) rfl (Nat.le_of_ble_eq_true rfl) ?_
  intro p e s m below meth c C hr ls hl
  have C : zz_C E RX0 cX0_strip 1 wsX0_strip p s m [.ref (E.1 + a0)].toArray meth c := C
  have hl : lv_has ls 1 [(0, .ref (E.1 + a0))] := hl
  unfold f_X0_strip
  refine zz_aload_n C dX0_strip_0 rfl (lv_at hl 0 rfl) ?_
  refine zz_iconst (v := 0) C dX0_strip_1 (by decide) ?_
  refine zz_put (M1 := zz_si M a0 1 (0 : Int32)) C (zz_lt h0 (by decide)) (zz_c0 h0) rfl in_X0_strip_X0 tyX0 tyX0_ok nmX0 1 (by decide) (List.mem_of_getElem? (i := 1) rfl) rfl rfl rfl (Nat.le_of_ble_eq_true rfl) (zz_p0_1 h0) zz_cell_si dX0_strip_2 (fun M_1 => ?_)
  refine zz_aload_n C dX0_strip_5 rfl (lv_at hl 0 rfl) ?_
  refine zz_iconst (v := 0) C dX0_strip_6 (by decide) ?_
  refine zz_put (M1 := zz_si M_1 a0 2 (0 : Int32)) C (zz_lt h0 (by decide)) (zz_c0 h0) rfl in_X0_strip_X0 tyX0 tyX0_ok nmX0 2 (by decide) (List.mem_of_getElem? (i := 2) rfl) rfl rfl rfl (Nat.le_of_ble_eq_true rfl) (zz_p0_2 h0) zz_cell_si dX0_strip_7 (fun M_2 => ?_)
  refine zz_aload_n C dX0_strip_10 rfl (lv_at hl 0 rfl) ?_
  refine zz_iconst (v := 0) C dX0_strip_11 (by decide) ?_
  refine zz_put (M1 := zz_si M_2 a0 3 (0 : Int32)) C (zz_lt h0 (by decide)) (zz_c0 h0) rfl in_X0_strip_X0 tyX0 tyX0_ok nmX0 3 (by decide) (List.mem_of_getElem? (i := 3) rfl) rfl rfl rfl (Nat.le_of_ble_eq_true rfl) (zz_p0_3 h0) zz_cell_si dX0_strip_12 (fun M_3 => ?_)
  exact zz_vret C hr dX0_strip_15
-- X0_grams ('X0', 'grams', '()I')
theorem in_X0_grams_X0 : ∀ w ∈ u_ws RX0 TX0 5, w ∈ wsX0_grams := fun _ h => List.mem_cons_of_mem _ (List.mem_append_right _ h)
def f_X0_grams (a0 : Nat) (M : zz_M) : Option (Int32 × zz_M) := some (((zz_i M a0 2) + (zz_i M a0 3)), M)
set_option maxRecDepth 100000 in
set_option maxHeartbeats 4000000 in
theorem m_X0_grams (l : Launch) (E : zz_E) (a0 : Nat) (h0 : zz_sh a0 = 0) (M : zz_M) : zz_Met (zz_pi E) l yX0_grams wsX0_grams 1 E [.ref (E.1 + a0)] M (f_X0_grams a0 M) := by
  refine zz_met (cc := cX0_grams) (nL := 1) (ret := (some .int)) (by decide) rfl (Nat.le_of_ble_eq_true rfl) ?_
  intro p e s m below meth c C hr ls hl
  have C : zz_C E RX0 cX0_grams 1 wsX0_grams p s m [.ref (E.1 + a0)].toArray meth c := C
  have hl : lv_has ls 1 [(0, .ref (E.1 + a0))] := hl
  unfold f_X0_grams
  refine zz_aload_n C dX0_grams_0 rfl (lv_at hl 0 rfl) ?_
  refine zz_get C (zz_lt h0 (by decide)) (zz_c0 h0) rfl in_X0_grams_X0 2 (by decide) (List.mem_of_getElem? (i := 1) rfl) rfl dX0_grams_1 ?_
  refine zz_aload_n C dX0_grams_4 rfl (lv_at hl 0 rfl) ?_
  refine zz_get C (zz_lt h0 (by decide)) (zz_c0 h0) rfl in_X0_grams_X0 3 (by decide) (List.mem_of_getElem? (i := 2) rfl) rfl dX0_grams_5 ?_
  refine zz_iadd C dX0_grams_8 ?_
  exact zz_iret C hr dX0_grams_9
-- X0_isThick ('X0', 'isThick', '()Z')
theorem in_X0_isThick_X0 : ∀ w ∈ u_ws RX0 TX0 5, w ∈ wsX0_isThick := fun _ h => List.mem_cons_of_mem _ (List.mem_append_right _ h)
def f_X0_isThick (a0 : Nat) (M : zz_M) : Option (Int32 × zz_M) := (if (zz_i M a0 1) < (40 : Int32) then some ((0 : Int32), M) else some ((1 : Int32), M))
set_option maxRecDepth 100000 in
set_option maxHeartbeats 4000000 in
theorem m_X0_isThick (l : Launch) (E : zz_E) (a0 : Nat) (h0 : zz_sh a0 = 0) (M : zz_M) : zz_Met (zz_pi E) l yX0_isThick wsX0_isThick 1 E [.ref (E.1 + a0)] M (f_X0_isThick a0 M) := by
  refine zz_met (cc := cX0_isThick) (nL := 1) (ret := (some .boolean)) (by decide) rfl (Nat.le_of_ble_eq_true rfl) ?_
  intro p e s m below meth c C hr ls hl
  have C : zz_C E RX0 cX0_isThick 1 wsX0_isThick p s m [.ref (E.1 + a0)].toArray meth c := C
  have hl : lv_has ls 1 [(0, .ref (E.1 + a0))] := hl
  unfold f_X0_isThick
  refine zz_aload_n C dX0_isThick_0 rfl (lv_at hl 0 rfl) ?_
  refine zz_get C (zz_lt h0 (by decide)) (zz_c0 h0) rfl in_X0_isThick_X0 1 (by decide) (List.mem_of_getElem? (i := 1) rfl) rfl dX0_isThick_1 ?_
  refine zz_bipush (v := 40) C dX0_isThick_4 (by decide) ?_
  refine zz_icmp_lt (tgt := 13) C dX0_isThick_6 (by decide) (fun c_1 => ?_) (fun c_1 => ?_)
  · refine zz_iconst (v := 0) C dX0_isThick_13 (by decide) ?_
    exact zz_zretl C (v := (0 : Int32)) rfl hr dX0_isThick_14
  · refine zz_iconst (v := 1) C dX0_isThick_9 (by decide) ?_
    refine zz_goto (tgt := 14) C dX0_isThick_10 (by decide) ?_
    exact zz_zretl C (v := (1 : Int32)) rfl hr dX0_isThick_14
-- X0_gain ('X0', 'gain', '(I)I')
theorem in_X0_gain_X0 : ∀ w ∈ u_ws RX0 TX0 5, w ∈ wsX0_gain := fun _ h => List.mem_cons_of_mem _ (List.mem_append_right _ h)
theorem hdS_X8_altarGain : yX8_altarGain.cls ≠ "java/lang/invoke/MethodHandle" ∧ yX8_altarGain.cls ≠ "java/lang/invoke/VarHandle" ∧ (parseMethodDescriptor yX8_altarGain.desc).map (fun d => d.parameters.length) = some 1 := by decide +kernel
theorem hdS_X8_moreIfAny : yX8_moreIfAny.cls ≠ "java/lang/invoke/MethodHandle" ∧ yX8_moreIfAny.cls ≠ "java/lang/invoke/VarHandle" ∧ (parseMethodDescriptor yX8_moreIfAny.desc).map (fun d => d.parameters.length) = some 2 := by decide +kernel
theorem hdS_X8_plainGain : yX8_plainGain.cls ≠ "java/lang/invoke/MethodHandle" ∧ yX8_plainGain.cls ≠ "java/lang/invoke/VarHandle" ∧ (parseMethodDescriptor yX8_plainGain.desc).map (fun d => d.parameters.length) = some 1 := by decide +kernel
def f_X0_gain (a0 : Nat) (x1 : Int32) (M : zz_M) : Option (Int32 × zz_M) := zz_bd (f_X8_plainGain x1 M) (fun r_1 M_2 => (if (zz_i M_2 a0 0) = (1 : Int32) then some (((3 : Int32) * r_1), M_2) else (if (zz_i M_2 a0 0) = (2 : Int32) then zz_bd (f_X8_altarGain r_1 M_2) (fun r_5 M_6 => some (r_5, M_6)) else (if (zz_i M_2 a0 0) = (3 : Int32) then (if (zz_i M_2 a0 1) = 0 then some (r_1, M_2) else some ((r_1 / (2 : Int32)), M_2)) else (if (zz_i M_2 a0 0) = (4 : Int32) then zz_bd (f_X8_altarGain r_1 M_2) (fun r_10 M_11 => zz_bd (f_X8_moreIfAny r_10 (5 : Int32) M_11) (fun r_12 M_13 => some (r_12, M_13))) else (if (zz_i M_2 a0 0) = (5 : Int32) then zz_bd (f_X8_moreIfAny ((3 : Int32) * r_1) (zz_i M_2 a0 1) M_2) (fun r_15 M_16 => some (r_15, M_16)) else some (r_1, M_2)))))))
set_option maxRecDepth 100000 in
set_option maxHeartbeats 4000000 in
theorem m_X0_gain (l : Launch) (E : zz_E) (a0 : Nat) (x1 : Int32) (h0 : zz_sh a0 = 0) (M : zz_M) : zz_Met (zz_pi E) l yX0_gain wsX0_gain 2 E [.ref (E.1 + a0), .int x1] M (f_X0_gain a0 x1 M) := by
  refine zz_met (cc := cX0_gain) (nL := 3) (ret := (some .int)) (by decide) rfl (Nat.le_of_ble_eq_true rfl) ?_
  intro p e s m below meth c C hr ls hl
  have C : zz_C E RX0 cX0_gain 3 wsX0_gain p s m [.ref (E.1 + a0), .int x1].toArray meth c := C
  have hl : lv_has ls 3 [(0, .ref (E.1 + a0)), (1, .int x1)] := hl
  unfold f_X0_gain
  refine zz_iload_n C dX0_gain_0 rfl (lv_at hl 1 rfl) ?_
  refine zz_callNi (As := [.int x1]) (rest := []) C (m_X8_plainGain l E x1  M) ⟨va_cnB 1 C.1.2.2.2.2 gX0_gain_X8_plainGain_n34 rfl rfl rfl C.2.1.2.1.1 (C.1.2.2.2.2 _ (List.mem_of_getElem? (i := 4) rfl)) hdS_X8_plainGain ⟨Nat.le_of_ble_eq_true rfl, Nat.le_of_ble_eq_true rfl⟩, C.1.2.2.2.2 _ (List.mem_of_getElem? (i := 3) rfl), trivial⟩ rfl hl.1 rfl (Nat.le_of_ble_eq_true rfl) dX0_gain_1 (fun r_1 M_2 => ?_)
  refine zz_istored_n (lv' := [(2, .int r_1), (0, .ref (E.1 + a0)), (1, .int x1)]) C dX0_gain_4 rfl hl (by decide) rfl (fun ls hl => ?_)
  refine zz_aload_n C dX0_gain_5 rfl (lv_at hl 1 rfl) ?_
  refine zz_get C (zz_lt h0 (by decide)) (zz_c0 h0) rfl in_X0_gain_X0 0 (by decide) (List.mem_of_getElem? (i := 1) rfl) rfl dX0_gain_6 ?_
  refine zz_ite (fun c_3 => ?_) (fun c_3 => ?_)
  · refine zz_tabIn (tgt := 44) C dX0_gain_9 (by rw [c_3]; decide) (by rw [c_3]; decide) (by rw [c_3]; rfl) (by decide) ?_
    refine zz_iconst (v := 3) C dX0_gain_44 (by decide) ?_
    refine zz_iload_n C dX0_gain_45 rfl (lv_at hl 0 rfl) ?_
    refine zz_imul C dX0_gain_46 ?_
    exact zz_iret C hr dX0_gain_47
  · refine zz_ite (fun c_4 => ?_) (fun c_4 => ?_)
    · refine zz_tabIn (tgt := 48) C dX0_gain_9 (by rw [c_4]; decide) (by rw [c_4]; decide) (by rw [c_4]; rfl) (by decide) ?_
      refine zz_iload_n C dX0_gain_48 rfl (lv_at hl 0 rfl) ?_
      refine zz_callNi (As := [.int r_1]) (rest := []) C (m_X8_altarGain l E r_1  M_2) ⟨va_cnB 1 C.1.2.2.2.2 gX0_gain_X8_altarGain_n38 rfl rfl rfl C.2.1.2.1.2.1 (C.1.2.2.2.2 _ (List.mem_of_getElem? (i := 4) rfl)) hdS_X8_altarGain ⟨Nat.le_of_ble_eq_true rfl, Nat.le_of_ble_eq_true rfl⟩, C.1.2.2.2.2 _ (List.mem_of_getElem? (i := 6) rfl), trivial⟩ rfl hl.1 rfl (Nat.le_of_ble_eq_true rfl) dX0_gain_49 (fun r_5 M_6 => ?_)
      exact zz_iret C hr dX0_gain_52
    · refine zz_ite (fun c_7 => ?_) (fun c_7 => ?_)
      · refine zz_tabIn (tgt := 53) C dX0_gain_9 (by rw [c_7]; decide) (by rw [c_7]; decide) (by rw [c_7]; rfl) (by decide) ?_
        refine zz_aload_n C dX0_gain_53 rfl (lv_at hl 1 rfl) ?_
        refine zz_get C (zz_lt h0 (by decide)) (zz_c0 h0) rfl in_X0_gain_X0 1 (by decide) (List.mem_of_getElem? (i := 2) rfl) rfl dX0_gain_54 ?_
        refine zz_if_ne (tgt := 64) C dX0_gain_57 (by decide) (fun c_8 => ?_) (fun c_8 => ?_)
        · refine zz_iload_n C dX0_gain_60 rfl (lv_at hl 0 rfl) ?_
          refine zz_goto (tgt := 67) C dX0_gain_61 (by decide) ?_
          exact zz_iret C hr dX0_gain_67
        · refine zz_iload_n C dX0_gain_64 rfl (lv_at hl 0 rfl) ?_
          refine zz_iconst (v := 2) C dX0_gain_65 (by decide) ?_
          refine zz_idivc C dX0_gain_66 (by decide) ?_
          exact zz_iret C hr dX0_gain_67
      · refine zz_ite (fun c_9 => ?_) (fun c_9 => ?_)
        · refine zz_tabIn (tgt := 68) C dX0_gain_9 (by rw [c_9]; decide) (by rw [c_9]; decide) (by rw [c_9]; rfl) (by decide) ?_
          refine zz_iload_n C dX0_gain_68 rfl (lv_at hl 0 rfl) ?_
          refine zz_callNi (As := [.int r_1]) (rest := []) C (m_X8_altarGain l E r_1  M_2) ⟨va_cnB 1 C.1.2.2.2.2 gX0_gain_X8_altarGain_n38 rfl rfl rfl C.2.1.2.1.2.1 (C.1.2.2.2.2 _ (List.mem_of_getElem? (i := 4) rfl)) hdS_X8_altarGain ⟨Nat.le_of_ble_eq_true rfl, Nat.le_of_ble_eq_true rfl⟩, C.1.2.2.2.2 _ (List.mem_of_getElem? (i := 6) rfl), trivial⟩ rfl hl.1 rfl (Nat.le_of_ble_eq_true rfl) dX0_gain_69 (fun r_10 M_11 => ?_)
          refine zz_iconst (v := 5) C dX0_gain_72 (by decide) ?_
          refine zz_callNi (As := [.int r_10, .int (5 : Int32)]) (rest := []) C (m_X8_moreIfAny l E r_10 (5 : Int32)  M_11) ⟨va_cnB 2 C.1.2.2.2.2 gX0_gain_X8_moreIfAny_n41 rfl rfl rfl C.2.1.2.1.2.2.1 (C.1.2.2.2.2 _ (List.mem_of_getElem? (i := 4) rfl)) hdS_X8_moreIfAny ⟨Nat.le_of_ble_eq_true rfl, Nat.le_of_ble_eq_true rfl⟩, C.1.2.2.2.2 _ (List.mem_of_getElem? (i := 8) rfl), trivial⟩ rfl hl.1 rfl (Nat.le_of_ble_eq_true rfl) dX0_gain_73 (fun r_12 M_13 => ?_)
          exact zz_iret C hr dX0_gain_76
        · refine zz_ite (fun c_14 => ?_) (fun c_14 => ?_)
          · refine zz_tabIn (tgt := 77) C dX0_gain_9 (by rw [c_14]; decide) (by rw [c_14]; decide) (by rw [c_14]; rfl) (by decide) ?_
            refine zz_iconst (v := 3) C dX0_gain_77 (by decide) ?_
            refine zz_iload_n C dX0_gain_78 rfl (lv_at hl 0 rfl) ?_
            refine zz_imul C dX0_gain_79 ?_
            refine zz_aload_n C dX0_gain_80 rfl (lv_at hl 1 rfl) ?_
            refine zz_get C (zz_lt h0 (by decide)) (zz_c0 h0) rfl in_X0_gain_X0 1 (by decide) (List.mem_of_getElem? (i := 2) rfl) rfl dX0_gain_81 ?_
            refine zz_callNi (As := [.int ((3 : Int32) * r_1), .int (zz_i M_2 a0 1)]) (rest := []) C (m_X8_moreIfAny l E ((3 : Int32) * r_1) (zz_i M_2 a0 1)  M_2) ⟨va_cnB 2 C.1.2.2.2.2 gX0_gain_X8_moreIfAny_n41 rfl rfl rfl C.2.1.2.1.2.2.1 (C.1.2.2.2.2 _ (List.mem_of_getElem? (i := 4) rfl)) hdS_X8_moreIfAny ⟨Nat.le_of_ble_eq_true rfl, Nat.le_of_ble_eq_true rfl⟩, C.1.2.2.2.2 _ (List.mem_of_getElem? (i := 8) rfl), trivial⟩ rfl hl.1 rfl (Nat.le_of_ble_eq_true rfl) dX0_gain_84 (fun r_15 M_16 => ?_)
            exact zz_iret C hr dX0_gain_87
          · refine zz_tabOut (tgt := 88) C dX0_gain_9 (by have q1 : (zz_i M_2 a0 0).toInt ≠ 1 := zz_ne c_3; have q2 : (zz_i M_2 a0 0).toInt ≠ 2 := zz_ne c_4; have q3 : (zz_i M_2 a0 0).toInt ≠ 3 := zz_ne c_7; have q4 : (zz_i M_2 a0 0).toInt ≠ 4 := zz_ne c_9; have q5 : (zz_i M_2 a0 0).toInt ≠ 5 := zz_ne c_14; omega) (by decide) ?_
            refine zz_iload_n C dX0_gain_88 rfl (lv_at hl 0 rfl) ?_
            exact zz_iret C hr dX0_gain_89
-- X0_minutes ('X0', 'minutes', '()I')
theorem in_X0_minutes_X0 : ∀ w ∈ u_ws RX0 TX0 5, w ∈ wsX0_minutes := fun _ h => List.mem_cons_of_mem _ (List.mem_append_right _ h)
def f_X0_minutes (a0 : Nat) (M : zz_M) : Option (Int32 × zz_M) := zz_w (((3 : Int32) * (zz_i M a0 2)) + ((5 : Int32) * (zz_i M a0 3))) (fun x1_1 => (if (zz_i M a0 0) = (1 : Int32) then some ((x1_1 / (3 : Int32)), M) else (if (zz_i M a0 0) = (2 : Int32) then some ((x1_1 + (x1_1 / (10 : Int32))), M) else (if (zz_i M a0 0) = (3 : Int32) then some ((if (60 : Int32) < x1_1 then (60 : Int32) else x1_1), M) else (if (zz_i M a0 0) = (4 : Int32) then some (((x1_1 + (x1_1 / (10 : Int32))) + (30 : Int32)), M) else (if (zz_i M a0 0) = (5 : Int32) then some ((x1_1 / (3 : Int32)), M) else some (x1_1, M)))))))
set_option maxRecDepth 100000 in
set_option maxHeartbeats 4000000 in
theorem m_X0_minutes (l : Launch) (E : zz_E) (a0 : Nat) (h0 : zz_sh a0 = 0) (M : zz_M) : zz_Met (zz_pi E) l yX0_minutes wsX0_minutes 1 E [.ref (E.1 + a0)] M (f_X0_minutes a0 M) := by
  refine zz_met (cc := cX0_minutes) (nL := 2) (ret := (some .int)) (by decide) rfl (Nat.le_of_ble_eq_true rfl) ?_
  intro p e s m below meth c C hr ls hl
  have C : zz_C E RX0 cX0_minutes 2 wsX0_minutes p s m [.ref (E.1 + a0)].toArray meth c := C
  have hl : lv_has ls 2 [(0, .ref (E.1 + a0))] := hl
  unfold f_X0_minutes
  refine zz_iconst (v := 3) C dX0_minutes_0 (by decide) ?_
  refine zz_aload_n C dX0_minutes_1 rfl (lv_at hl 0 rfl) ?_
  refine zz_get C (zz_lt h0 (by decide)) (zz_c0 h0) rfl in_X0_minutes_X0 2 (by decide) (List.mem_of_getElem? (i := 1) rfl) rfl dX0_minutes_2 ?_
  refine zz_imul C dX0_minutes_5 ?_
  refine zz_iconst (v := 5) C dX0_minutes_6 (by decide) ?_
  refine zz_aload_n C dX0_minutes_7 rfl (lv_at hl 0 rfl) ?_
  refine zz_get C (zz_lt h0 (by decide)) (zz_c0 h0) rfl in_X0_minutes_X0 3 (by decide) (List.mem_of_getElem? (i := 2) rfl) rfl dX0_minutes_8 ?_
  refine zz_imul C dX0_minutes_11 ?_
  refine zz_iadd C dX0_minutes_12 ?_
  refine zz_istore_n C (fun x1_1 => [(1, .int x1_1), (0, .ref (E.1 + a0))]) dX0_minutes_13 rfl hl (by decide) (fun _ => rfl) (fun x1_1 ls hl => ?_)
  refine zz_aload_n C dX0_minutes_14 rfl (lv_at hl 1 rfl) ?_
  refine zz_get C (zz_lt h0 (by decide)) (zz_c0 h0) rfl in_X0_minutes_X0 0 (by decide) (List.mem_of_getElem? (i := 3) rfl) rfl dX0_minutes_15 ?_
  refine zz_ite (fun c_2 => ?_) (fun c_2 => ?_)
  · refine zz_tabIn (tgt := 52) C dX0_minutes_18 (by rw [c_2]; decide) (by rw [c_2]; decide) (by rw [c_2]; rfl) (by decide) ?_
    refine zz_iload_n C dX0_minutes_52 rfl (lv_at hl 0 rfl) ?_
    refine zz_iconst (v := 3) C dX0_minutes_53 (by decide) ?_
    refine zz_idivc C dX0_minutes_54 (by decide) ?_
    exact zz_iret C hr dX0_minutes_55
  · refine zz_ite (fun c_3 => ?_) (fun c_3 => ?_)
    · refine zz_tabIn (tgt := 56) C dX0_minutes_18 (by rw [c_3]; decide) (by rw [c_3]; decide) (by rw [c_3]; rfl) (by decide) ?_
      refine zz_iload_n C dX0_minutes_56 rfl (lv_at hl 0 rfl) ?_
      refine zz_iload_n C dX0_minutes_57 rfl (lv_at hl 0 rfl) ?_
      refine zz_bipush (v := 10) C dX0_minutes_58 (by decide) ?_
      refine zz_idivc C dX0_minutes_60 (by decide) ?_
      refine zz_iadd C dX0_minutes_61 ?_
      exact zz_iret C hr dX0_minutes_62
    · refine zz_ite (fun c_4 => ?_) (fun c_4 => ?_)
      · refine zz_tabIn (tgt := 63) C dX0_minutes_18 (by rw [c_4]; decide) (by rw [c_4]; decide) (by rw [c_4]; rfl) (by decide) ?_
        refine zz_iload_n C dX0_minutes_63 rfl (lv_at hl 0 rfl) ?_
        refine zz_bipush (v := 60) C dX0_minutes_64 (by decide) ?_
        refine zz_mmin C hl.1 (List.mem_of_getElem? (i := 4) rfl) (List.mem_of_getElem? (i := 5) rfl) (List.mem_of_getElem? (i := 6) rfl) (List.mem_of_getElem? (i := 7) rfl) (Nat.le_of_ble_eq_true rfl) (Nat.le_of_ble_eq_true rfl) dX0_minutes_66 ?_
        exact zz_iret C hr dX0_minutes_69
      · refine zz_ite (fun c_5 => ?_) (fun c_5 => ?_)
        · refine zz_tabIn (tgt := 70) C dX0_minutes_18 (by rw [c_5]; decide) (by rw [c_5]; decide) (by rw [c_5]; rfl) (by decide) ?_
          refine zz_iload_n C dX0_minutes_70 rfl (lv_at hl 0 rfl) ?_
          refine zz_iload_n C dX0_minutes_71 rfl (lv_at hl 0 rfl) ?_
          refine zz_bipush (v := 10) C dX0_minutes_72 (by decide) ?_
          refine zz_idivc C dX0_minutes_74 (by decide) ?_
          refine zz_iadd C dX0_minutes_75 ?_
          refine zz_bipush (v := 30) C dX0_minutes_76 (by decide) ?_
          refine zz_iadd C dX0_minutes_78 ?_
          exact zz_iret C hr dX0_minutes_79
        · refine zz_ite (fun c_6 => ?_) (fun c_6 => ?_)
          · refine zz_tabIn (tgt := 52) C dX0_minutes_18 (by rw [c_6]; decide) (by rw [c_6]; decide) (by rw [c_6]; rfl) (by decide) ?_
            refine zz_iload_n C dX0_minutes_52 rfl (lv_at hl 0 rfl) ?_
            refine zz_iconst (v := 3) C dX0_minutes_53 (by decide) ?_
            refine zz_idivc C dX0_minutes_54 (by decide) ?_
            exact zz_iret C hr dX0_minutes_55
          · refine zz_tabOut (tgt := 80) C dX0_minutes_18 (by have q1 : (zz_i M a0 0).toInt ≠ 1 := zz_ne c_2; have q2 : (zz_i M a0 0).toInt ≠ 2 := zz_ne c_3; have q3 : (zz_i M a0 0).toInt ≠ 3 := zz_ne c_4; have q4 : (zz_i M a0 0).toInt ≠ 4 := zz_ne c_5; have q5 : (zz_i M a0 0).toInt ≠ 5 := zz_ne c_6; omega) (by decide) ?_
            refine zz_iload_n C dX0_minutes_80 rfl (lv_at hl 0 rfl) ?_
            exact zz_iret C hr dX0_minutes_81
-- X0_addLayer ('X0', 'addLayer', '(IZ)V')
theorem in_X0_addLayer_X0 : ∀ w ∈ u_ws RX0 TX0 5, w ∈ wsX0_addLayer := fun _ h => List.mem_cons_of_mem _ (List.mem_append_right _ h)
theorem hdV_X0_isThick : yX0_isThick.cls = RX0 ∧ yX0_isThick.cls ≠ "java/lang/invoke/MethodHandle" ∧ yX0_isThick.cls ≠ "java/lang/invoke/VarHandle" ∧ (parseMethodDescriptor yX0_isThick.desc).map (fun d => d.parameters.length) = some 0 := by decide +kernel
def b_X0_addLayer_60 (a0 : Nat) (M : zz_M) : Option (Unit × zz_M) := zz_w (zz_si M a0 1 ((zz_i M a0 1) + (1 : Int32))) (fun M_10 => some ((), M_10))
set_option maxRecDepth 100000 in
set_option maxHeartbeats 4000000 in
theorem wb_X0_addLayer_60 {p : Program} {l : Launch} {e : Env} {s : State} {m : MethodId} {args : Array Value} {below : List Frame} {meth : Method} {c : Code} {E : zz_E} (C : zz_C E RX0 cX0_addLayer 3 wsX0_addLayer p s m args meth c) (hr : meth.sig.returnType = none) : ∀ (a0 : Nat) (ha0 : zz_sh a0 = 0) (M : zz_M) (ls : Array Slot), lv_has ls 3 [(0, .ref (E.1 + a0))] → zz_Z E p l e (zz_rm 2) s m args below meth c (zz_Q (zz_pv E) E below args s) (b_X0_addLayer_60 a0 M) M (F0 m 60 ls []) := by
  intro a0 ha0 M ls hl
  unfold b_X0_addLayer_60
  refine zz_aload_n C dX0_addLayer_60 rfl (lv_at hl 0 rfl) ?_
  refine zz_dup C dX0_addLayer_61 rfl ?_
  refine zz_get C (zz_lt ha0 (by decide)) (zz_c0 ha0) rfl in_X0_addLayer_X0 1 (by decide) (List.mem_of_getElem? (i := 3) rfl) rfl dX0_addLayer_62 ?_
  refine zz_iconst (v := 1) C dX0_addLayer_65 (by decide) ?_
  refine zz_iadd C dX0_addLayer_66 ?_
  refine zz_put (M1 := zz_si M a0 1 ((zz_i M a0 1) + (1 : Int32))) C (zz_lt ha0 (by decide)) (zz_c0 ha0) rfl in_X0_addLayer_X0 tyX0 tyX0_ok nmX0 1 (by decide) (List.mem_of_getElem? (i := 3) rfl) rfl rfl rfl (Nat.le_of_ble_eq_true rfl) (zz_p0_1 ha0) zz_cell_si dX0_addLayer_67 (fun M_10 => ?_)
  exact zz_vret C hr dX0_addLayer_70
def f_X0_addLayer (a0 : Nat) (x1 : Int32) (x2 : Int32) (M : zz_M) : Option (Unit × zz_M) := (if x1 ≤ 0 then some ((), M) else zz_bd (f_X0_isThick a0 M) (fun r_2 M_3 => (if r_2 = 0 then (if x2 = 0 then zz_w (zz_si M_3 a0 2 ((zz_i M_3 a0 2) + x1)) (fun M_6 => (if zz_in (zz_i M_6 a0 1) 40 = true then zz_w (zz_si M_6 (a0 + 1) (zz_n (zz_i M_6 a0 1)) x1) (fun M_7 => b_X0_addLayer_60  a0 M_7) else none)) else zz_w (zz_si M_3 a0 3 ((zz_i M_3 a0 3) + x1)) (fun M_8 => (if zz_in (zz_i M_8 a0 1) 40 = true then zz_w (zz_si M_8 (a0 + 1) (zz_n (zz_i M_8 a0 1)) (-x1)) (fun M_9 => b_X0_addLayer_60  a0 M_9) else none))) else some ((), M_3))))
set_option maxRecDepth 100000 in
set_option maxHeartbeats 4000000 in
theorem m_X0_addLayer (l : Launch) (E : zz_E) (a0 : Nat) (x1 : Int32) (x2 : Int32) (h0 : zz_sh a0 = 0) (M : zz_M) : zz_Met (zz_pv E) l yX0_addLayer wsX0_addLayer 2 E [.ref (E.1 + a0), .int x1, .int x2] M (f_X0_addLayer a0 x1 x2 M) := by
  refine zz_met (cc := cX0_addLayer) (nL := 3) (ret := none) (by decide) rfl (Nat.le_of_ble_eq_true rfl) ?_
  intro p e s m below meth c C hr ls hl
  have C : zz_C E RX0 cX0_addLayer 3 wsX0_addLayer p s m [.ref (E.1 + a0), .int x1, .int x2].toArray meth c := C
  have hl : lv_has ls 3 [(0, .ref (E.1 + a0)), (1, .int x1), (2, .int x2)] := hl
  unfold f_X0_addLayer
  refine zz_iload_n C dX0_addLayer_0 rfl (lv_at hl 1 rfl) ?_
  refine zz_if_le (tgt := 11) C dX0_addLayer_1 (by decide) (fun c_1 => ?_) (fun c_1 => ?_)
  · exact zz_vret C hr dX0_addLayer_11
  · refine zz_aload_n C dX0_addLayer_4 rfl (lv_at hl 0 rfl) ?_
    refine zz_callVi (As := []) (rest := []) C (m_X0_isThick l E a0 h0 M) (cwV 0 C.1.2.2.2.2 gX0_addLayer_X0_isThick rfl rfl rfl hdV_X0_isThick ⟨Nat.le_of_ble_eq_true rfl, Nat.le_of_ble_eq_true rfl⟩) (zz_lt h0 (by decide)) (zz_c0 h0) rfl rfl hl.1 rfl (Nat.le_of_ble_eq_true rfl) dX0_addLayer_5 (fun r_2 M_3 => ?_)
    refine zz_if_eq (tgt := 12) C dX0_addLayer_8 (by decide) (fun c_4 => ?_) (fun c_4 => ?_)
    · refine zz_iload_n C dX0_addLayer_12 rfl (lv_at hl 2 rfl) ?_
      refine zz_if_eq (tgt := 40) C dX0_addLayer_13 (by decide) (fun c_5 => ?_) (fun c_5 => ?_)
      · refine zz_aload_n C dX0_addLayer_40 rfl (lv_at hl 0 rfl) ?_
        refine zz_dup C dX0_addLayer_41 rfl ?_
        refine zz_get C (zz_lt h0 (by decide)) (zz_c0 h0) rfl in_X0_addLayer_X0 2 (by decide) (List.mem_of_getElem? (i := 4) rfl) rfl dX0_addLayer_42 ?_
        refine zz_iload_n C dX0_addLayer_45 rfl (lv_at hl 1 rfl) ?_
        refine zz_iadd C dX0_addLayer_46 ?_
        refine zz_put (M1 := zz_si M_3 a0 2 ((zz_i M_3 a0 2) + x1)) C (zz_lt h0 (by decide)) (zz_c0 h0) rfl in_X0_addLayer_X0 tyX0 tyX0_ok nmX0 2 (by decide) (List.mem_of_getElem? (i := 4) rfl) rfl rfl rfl (Nat.le_of_ble_eq_true rfl) (zz_p0_2 h0) zz_cell_si dX0_addLayer_47 (fun M_6 => ?_)
        refine zz_aload_n C dX0_addLayer_50 rfl (lv_at hl 0 rfl) ?_
        refine zz_get C (zz_lt h0 (by decide)) (zz_c0 h0) rfl in_X0_addLayer_X0 4 (by decide) (List.mem_of_getElem? (i := 2) rfl) rfl dX0_addLayer_51 ?_
        refine zz_aload_n C dX0_addLayer_54 rfl (lv_at hl 0 rfl) ?_
        refine zz_get C (zz_lt h0 (by decide)) (zz_c0 h0) rfl in_X0_addLayer_X0 1 (by decide) (List.mem_of_getElem? (i := 3) rfl) rfl dX0_addLayer_55 ?_
        refine zz_iload_n C dX0_addLayer_58 rfl (lv_at hl 1 rfl) ?_
        refine zz_iast C (zz_lt (zz_s0_4 h0) (by decide)) (fun _ => zz_c10 (zz_s0_4 h0)) dX0_addLayer_59 (fun M_7 => ?_)
        exact wb_X0_addLayer_60 C hr  a0 h0 M_7 ls (lv_sub hl [0] rfl)
      · refine zz_aload_n C dX0_addLayer_16 rfl (lv_at hl 0 rfl) ?_
        refine zz_dup C dX0_addLayer_17 rfl ?_
        refine zz_get C (zz_lt h0 (by decide)) (zz_c0 h0) rfl in_X0_addLayer_X0 3 (by decide) (List.mem_of_getElem? (i := 1) rfl) rfl dX0_addLayer_18 ?_
        refine zz_iload_n C dX0_addLayer_21 rfl (lv_at hl 1 rfl) ?_
        refine zz_iadd C dX0_addLayer_22 ?_
        refine zz_put (M1 := zz_si M_3 a0 3 ((zz_i M_3 a0 3) + x1)) C (zz_lt h0 (by decide)) (zz_c0 h0) rfl in_X0_addLayer_X0 tyX0 tyX0_ok nmX0 3 (by decide) (List.mem_of_getElem? (i := 1) rfl) rfl rfl rfl (Nat.le_of_ble_eq_true rfl) (zz_p0_3 h0) zz_cell_si dX0_addLayer_23 (fun M_8 => ?_)
        refine zz_aload_n C dX0_addLayer_26 rfl (lv_at hl 0 rfl) ?_
        refine zz_get C (zz_lt h0 (by decide)) (zz_c0 h0) rfl in_X0_addLayer_X0 4 (by decide) (List.mem_of_getElem? (i := 2) rfl) rfl dX0_addLayer_27 ?_
        refine zz_aload_n C dX0_addLayer_30 rfl (lv_at hl 0 rfl) ?_
        refine zz_get C (zz_lt h0 (by decide)) (zz_c0 h0) rfl in_X0_addLayer_X0 1 (by decide) (List.mem_of_getElem? (i := 3) rfl) rfl dX0_addLayer_31 ?_
        refine zz_iload_n C dX0_addLayer_34 rfl (lv_at hl 1 rfl) ?_
        refine zz_ineg C dX0_addLayer_35 ?_
        refine zz_iast C (zz_lt (zz_s0_4 h0) (by decide)) (fun _ => zz_c10 (zz_s0_4 h0)) dX0_addLayer_36 (fun M_9 => ?_)
        refine zz_goto (tgt := 60) C dX0_addLayer_37 (by decide) ?_
        exact wb_X0_addLayer_60 C hr  a0 h0 M_9 ls (lv_sub hl [0] rfl)
    · exact zz_vret C hr dX0_addLayer_11
-- X0_thin ('X0', 'thin', '(II)V')
theorem in_X0_thin_X0 : ∀ w ∈ u_ws RX0 TX0 5, w ∈ wsX0_thin := fun _ h => List.mem_cons_of_mem _ (List.mem_append_right _ h)
def b_X0_thin_52 (a0 : Nat) (x1 : Int32) (M : zz_M) : Option (Unit × zz_M) := (if zz_in x1 40 = true then (if (zz_i M (a0 + 1) (zz_n x1)) = 0 then zz_w (zz_si M a0 1 x1) (fun M_7 => some ((), M_7)) else some ((), M)) else none)
set_option maxRecDepth 100000 in
set_option maxHeartbeats 4000000 in
theorem wb_X0_thin_52 {p : Program} {l : Launch} {e : Env} {s : State} {m : MethodId} {args : Array Value} {below : List Frame} {meth : Method} {c : Code} {E : zz_E} (C : zz_C E RX0 cX0_thin 3 wsX0_thin p s m args meth c) (hr : meth.sig.returnType = none) : ∀ (a0 : Nat) (x1 : Int32) (ha0 : zz_sh a0 = 0) (M : zz_M) (ls : Array Slot), lv_has ls 3 [(0, .ref (E.1 + a0)), (1, .int x1)] → zz_Z E p l e (zz_rm 1) s m args below meth c (zz_Q (zz_pv E) E below args s) (b_X0_thin_52 a0 x1 M) M (F0 m 52 ls []) := by
  intro a0 x1 ha0 M ls hl
  unfold b_X0_thin_52
  refine zz_aload_n C dX0_thin_52 rfl (lv_at hl 0 rfl) ?_
  refine zz_get C (zz_lt ha0 (by decide)) (zz_c0 ha0) rfl in_X0_thin_X0 4 (by decide) (List.mem_of_getElem? (i := 1) rfl) rfl dX0_thin_53 ?_
  refine zz_iload_n C dX0_thin_56 rfl (lv_at hl 1 rfl) ?_
  refine zz_iald C (zz_lt (zz_s0_4 ha0) (by decide)) (zz_c10 (zz_s0_4 ha0)) dX0_thin_57 ?_
  refine zz_if_ne (tgt := 66) C dX0_thin_58 (by decide) (fun c_6 => ?_) (fun c_6 => ?_)
  · refine zz_aload_n C dX0_thin_61 rfl (lv_at hl 0 rfl) ?_
    refine zz_iload_n C dX0_thin_62 rfl (lv_at hl 1 rfl) ?_
    refine zz_put (M1 := zz_si M a0 1 x1) C (zz_lt ha0 (by decide)) (zz_c0 ha0) rfl in_X0_thin_X0 tyX0 tyX0_ok nmX0 1 (by decide) (List.mem_of_getElem? (i := 4) rfl) rfl rfl rfl (Nat.le_of_ble_eq_true rfl) (zz_p0_1 ha0) zz_cell_si dX0_thin_63 (fun M_7 => ?_)
    exact zz_vret C hr dX0_thin_66
  · exact zz_vret C hr dX0_thin_66
def f_X0_thin (a0 : Nat) (x1 : Int32) (x2 : Int32) (M : zz_M) : Option (Unit × zz_M) := (if zz_in x1 40 = true then (if 0 ≤ (zz_i M (a0 + 1) (zz_n x1)) then zz_w (zz_si M a0 2 ((zz_i M a0 2) - x2)) (fun M_2 => (if zz_in x1 40 = true then (if zz_in x1 40 = true then zz_w (zz_si M_2 (a0 + 1) (zz_n x1) ((zz_i M_2 (a0 + 1) (zz_n x1)) - x2)) (fun M_3 => b_X0_thin_52  a0 x1 M_3) else none) else none)) else zz_w (zz_si M a0 3 ((zz_i M a0 3) - x2)) (fun M_4 => (if zz_in x1 40 = true then (if zz_in x1 40 = true then zz_w (zz_si M_4 (a0 + 1) (zz_n x1) ((zz_i M_4 (a0 + 1) (zz_n x1)) + x2)) (fun M_5 => b_X0_thin_52  a0 x1 M_5) else none) else none))) else none)
set_option maxRecDepth 100000 in
set_option maxHeartbeats 4000000 in
theorem m_X0_thin (l : Launch) (E : zz_E) (a0 : Nat) (x1 : Int32) (x2 : Int32) (h0 : zz_sh a0 = 0) (M : zz_M) : zz_Met (zz_pv E) l yX0_thin wsX0_thin 1 E [.ref (E.1 + a0), .int x1, .int x2] M (f_X0_thin a0 x1 x2 M) := by
  refine zz_met (cc := cX0_thin) (nL := 3) (ret := none) (by decide) rfl (Nat.le_of_ble_eq_true rfl) ?_
  intro p e s m below meth c C hr ls hl
  have C : zz_C E RX0 cX0_thin 3 wsX0_thin p s m [.ref (E.1 + a0), .int x1, .int x2].toArray meth c := C
  have hl : lv_has ls 3 [(0, .ref (E.1 + a0)), (1, .int x1), (2, .int x2)] := hl
  unfold f_X0_thin
  refine zz_aload_n C dX0_thin_0 rfl (lv_at hl 0 rfl) ?_
  refine zz_get C (zz_lt h0 (by decide)) (zz_c0 h0) rfl in_X0_thin_X0 4 (by decide) (List.mem_of_getElem? (i := 1) rfl) rfl dX0_thin_1 ?_
  refine zz_iload_n C dX0_thin_4 rfl (lv_at hl 1 rfl) ?_
  refine zz_iald C (zz_lt (zz_s0_4 h0) (by decide)) (zz_c10 (zz_s0_4 h0)) dX0_thin_5 ?_
  refine zz_if_ge (tgt := 32) C dX0_thin_6 (by decide) (fun c_1 => ?_) (fun c_1 => ?_)
  · refine zz_aload_n C dX0_thin_32 rfl (lv_at hl 0 rfl) ?_
    refine zz_dup C dX0_thin_33 rfl ?_
    refine zz_get C (zz_lt h0 (by decide)) (zz_c0 h0) rfl in_X0_thin_X0 2 (by decide) (List.mem_of_getElem? (i := 3) rfl) rfl dX0_thin_34 ?_
    refine zz_iload_n C dX0_thin_37 rfl (lv_at hl 2 rfl) ?_
    refine zz_isub C dX0_thin_38 ?_
    refine zz_put (M1 := zz_si M a0 2 ((zz_i M a0 2) - x2)) C (zz_lt h0 (by decide)) (zz_c0 h0) rfl in_X0_thin_X0 tyX0 tyX0_ok nmX0 2 (by decide) (List.mem_of_getElem? (i := 3) rfl) rfl rfl rfl (Nat.le_of_ble_eq_true rfl) (zz_p0_2 h0) zz_cell_si dX0_thin_39 (fun M_2 => ?_)
    refine zz_aload_n C dX0_thin_42 rfl (lv_at hl 0 rfl) ?_
    refine zz_get C (zz_lt h0 (by decide)) (zz_c0 h0) rfl in_X0_thin_X0 4 (by decide) (List.mem_of_getElem? (i := 1) rfl) rfl dX0_thin_43 ?_
    refine zz_iload_n C dX0_thin_46 rfl (lv_at hl 1 rfl) ?_
    refine zz_dup2_11 C dX0_thin_47 rfl rfl ?_
    refine zz_iald C (zz_lt (zz_s0_4 h0) (by decide)) (zz_c10 (zz_s0_4 h0)) dX0_thin_48 ?_
    refine zz_iload_n C dX0_thin_49 rfl (lv_at hl 2 rfl) ?_
    refine zz_isub C dX0_thin_50 ?_
    refine zz_iast C (zz_lt (zz_s0_4 h0) (by decide)) (fun _ => zz_c10 (zz_s0_4 h0)) dX0_thin_51 (fun M_3 => ?_)
    exact wb_X0_thin_52 C hr  a0 x1 h0 M_3 ls (lv_sub hl [0, 1] rfl)
  · refine zz_aload_n C dX0_thin_9 rfl (lv_at hl 0 rfl) ?_
    refine zz_dup C dX0_thin_10 rfl ?_
    refine zz_get C (zz_lt h0 (by decide)) (zz_c0 h0) rfl in_X0_thin_X0 3 (by decide) (List.mem_of_getElem? (i := 2) rfl) rfl dX0_thin_11 ?_
    refine zz_iload_n C dX0_thin_14 rfl (lv_at hl 2 rfl) ?_
    refine zz_isub C dX0_thin_15 ?_
    refine zz_put (M1 := zz_si M a0 3 ((zz_i M a0 3) - x2)) C (zz_lt h0 (by decide)) (zz_c0 h0) rfl in_X0_thin_X0 tyX0 tyX0_ok nmX0 3 (by decide) (List.mem_of_getElem? (i := 2) rfl) rfl rfl rfl (Nat.le_of_ble_eq_true rfl) (zz_p0_3 h0) zz_cell_si dX0_thin_16 (fun M_4 => ?_)
    refine zz_aload_n C dX0_thin_19 rfl (lv_at hl 0 rfl) ?_
    refine zz_get C (zz_lt h0 (by decide)) (zz_c0 h0) rfl in_X0_thin_X0 4 (by decide) (List.mem_of_getElem? (i := 1) rfl) rfl dX0_thin_20 ?_
    refine zz_iload_n C dX0_thin_23 rfl (lv_at hl 1 rfl) ?_
    refine zz_dup2_11 C dX0_thin_24 rfl rfl ?_
    refine zz_iald C (zz_lt (zz_s0_4 h0) (by decide)) (zz_c10 (zz_s0_4 h0)) dX0_thin_25 ?_
    refine zz_iload_n C dX0_thin_26 rfl (lv_at hl 2 rfl) ?_
    refine zz_iadd C dX0_thin_27 ?_
    refine zz_iast C (zz_lt (zz_s0_4 h0) (by decide)) (fun _ => zz_c10 (zz_s0_4 h0)) dX0_thin_28 (fun M_5 => ?_)
    refine zz_goto (tgt := 52) C dX0_thin_29 (by decide) ?_
    exact wb_X0_thin_52 C hr  a0 x1 h0 M_5 ls (lv_sub hl [0, 1] rfl)
-- X0_loseGrams ('X0', 'loseGrams', '(I)I')
theorem in_X0_loseGrams_X0 : ∀ w ∈ u_ws RX0 TX0 5, w ∈ wsX0_loseGrams := fun _ h => List.mem_cons_of_mem _ (List.mem_append_right _ h)
theorem hdV_X0_thin : yX0_thin.cls = RX0 ∧ yX0_thin.cls ≠ "java/lang/invoke/MethodHandle" ∧ yX0_thin.cls ≠ "java/lang/invoke/VarHandle" ∧ (parseMethodDescriptor yX0_thin.desc).map (fun d => d.parameters.length) = some 2 := by decide +kernel
def b_X0_loseGrams_9 : Nat → Nat → Int32 → Int32 → Int32 → zz_M → Option (Int32 × zz_M)
  | 0 => fun _ _ _ _ _ => none
  | n + 1 => fun a0 x1 x2 x3 M => (if x3 < 0 then some (x2, M) else (if x1 ≤ x2 then some (x2, M) else (if zz_in x3 40 = true then zz_w (if (if 0 ≤ (zz_i M (a0 + 1) (zz_n x3)) then (zz_i M (a0 + 1) (zz_n x3)) else 0 - (zz_i M (a0 + 1) (zz_n x3))) < (x1 - x2) then (if 0 ≤ (zz_i M (a0 + 1) (zz_n x3)) then (zz_i M (a0 + 1) (zz_n x3)) else 0 - (zz_i M (a0 + 1) (zz_n x3))) else (x1 - x2)) (fun x4_4 => zz_bd (f_X0_thin a0 x3 x4_4 M) (fun _ M_5 => zz_w (x2 + x4_4) (fun x2_6 => zz_w (x3 + (-1 : Int32)) (fun x3_7 => (b_X0_loseGrams_9 n) a0 x1 x2_6 x3_7 M_5)))) else none)))
set_option maxRecDepth 100000 in
set_option maxHeartbeats 4000000 in
theorem wb_X0_loseGrams_9 {p : Program} {l : Launch} {e : Env} {s : State} {m : MethodId} {args : Array Value} {below : List Frame} {meth : Method} {c : Code} {E : zz_E} (C : zz_C E RX0 cX0_loseGrams 5 wsX0_loseGrams p s m args meth c) (hr : meth.sig.returnType = (some .int)) : ∀ (n : Nat) (a0 : Nat) (x1 : Int32) (x2 : Int32) (x3 : Int32) (ha0 : zz_sh a0 = 0) (M : zz_M) (ls : Array Slot), lv_has ls 5 [(0, .ref (E.1 + a0)), (1, .int x1), (2, .int x2), (3, .int x3)] → zz_Z E p l e (zz_rm 2) s m args below meth c (zz_Q (zz_pi E) E below args s) (b_X0_loseGrams_9 n a0 x1 x2 x3 M) M (F0 m 9 ls []) := by
  intro n
  induction n with
  | zero => intro a0 x1 x2 x3 ha0 M ls hl; exact zz_none
  | succ n ih =>
    intro a0 x1 x2 x3 ha0 M ls hl
    rw [b_X0_loseGrams_9]
    refine zz_iload_n C dX0_loseGrams_9 rfl (lv_at hl 3 rfl) ?_
    refine zz_if_lt (tgt := 53) C dX0_loseGrams_10 (by decide) (fun c_2 => ?_) (fun c_2 => ?_)
    · refine zz_iload_n C dX0_loseGrams_53 rfl (lv_at hl 2 rfl) ?_
      exact zz_iret C hr dX0_loseGrams_54
    · refine zz_iload_n C dX0_loseGrams_13 rfl (lv_at hl 2 rfl) ?_
      refine zz_iload_n C dX0_loseGrams_14 rfl (lv_at hl 1 rfl) ?_
      refine zz_icmp_ge (tgt := 53) C dX0_loseGrams_15 (by decide) (fun c_3 => ?_) (fun c_3 => ?_)
      · refine zz_iload_n C dX0_loseGrams_53 rfl (lv_at hl 2 rfl) ?_
        exact zz_iret C hr dX0_loseGrams_54
      · refine zz_iload_n C dX0_loseGrams_18 rfl (lv_at hl 1 rfl) ?_
        refine zz_iload_n C dX0_loseGrams_19 rfl (lv_at hl 2 rfl) ?_
        refine zz_isub C dX0_loseGrams_20 ?_
        refine zz_aload_n C dX0_loseGrams_21 rfl (lv_at hl 0 rfl) ?_
        refine zz_get C (zz_lt ha0 (by decide)) (zz_c0 ha0) rfl in_X0_loseGrams_X0 4 (by decide) (List.mem_of_getElem? (i := 2) rfl) rfl dX0_loseGrams_22 ?_
        refine zz_iload_n C dX0_loseGrams_25 rfl (lv_at hl 3 rfl) ?_
        refine zz_iald C (zz_lt (zz_s0_4 ha0) (by decide)) (zz_c10 (zz_s0_4 ha0)) dX0_loseGrams_26 ?_
        refine zz_mabs C hl.1 (List.mem_of_getElem? (i := 3) rfl) (List.mem_of_getElem? (i := 4) rfl) (List.mem_of_getElem? (i := 5) rfl) (List.mem_of_getElem? (i := 6) rfl) (Nat.le_of_ble_eq_true rfl) (Nat.le_of_ble_eq_true rfl) dX0_loseGrams_27 ?_
        refine zz_mmin C hl.1 (List.mem_of_getElem? (i := 7) rfl) (List.mem_of_getElem? (i := 8) rfl) (List.mem_of_getElem? (i := 5) rfl) (List.mem_of_getElem? (i := 9) rfl) (Nat.le_of_ble_eq_true rfl) (Nat.le_of_ble_eq_true rfl) dX0_loseGrams_30 ?_
        refine zz_istore C (fun x4_4 => [(4, .int x4_4), (0, .ref (E.1 + a0)), (1, .int x1), (2, .int x2), (3, .int x3)]) dX0_loseGrams_33 hl (by decide) (fun _ => rfl) (fun x4_4 ls hl => ?_)
        refine zz_aload_n C dX0_loseGrams_35 rfl (lv_at hl 1 rfl) ?_
        refine zz_iload_n C dX0_loseGrams_36 rfl (lv_at hl 4 rfl) ?_
        refine zz_iload C dX0_loseGrams_37 (lv_at hl 0 rfl) ?_
        refine zz_callVv (As := [.int x3, .int x4_4]) (rest := []) C (m_X0_thin l E a0 x3 x4_4 ha0 M) (cwV 2 C.1.2.2.2.2 gX0_loseGrams_X0_thin rfl rfl rfl hdV_X0_thin ⟨Nat.le_of_ble_eq_true rfl, Nat.le_of_ble_eq_true rfl⟩) (zz_lt ha0 (by decide)) (zz_c0 ha0) rfl rfl hl.1 rfl (Nat.le_of_ble_eq_true rfl) dX0_loseGrams_39 (fun _ M_5 => ?_)
        refine zz_iload_n C dX0_loseGrams_42 rfl (lv_at hl 3 rfl) ?_
        refine zz_iload C dX0_loseGrams_43 (lv_at hl 0 rfl) ?_
        refine zz_iadd C dX0_loseGrams_45 ?_
        refine zz_istore_n C (fun x2_6 => [(2, .int x2_6), (4, .int x4_4), (0, .ref (E.1 + a0)), (1, .int x1), (3, .int x3)]) dX0_loseGrams_46 rfl hl (by decide) (fun _ => rfl) (fun x2_6 ls hl => ?_)
        refine zz_iinc (k9 := 4) (d := -1) C (fun x3_7 => [(3, .int x3_7), (2, .int x2_6), (4, .int x4_4), (0, .ref (E.1 + a0)), (1, .int x1)]) dX0_loseGrams_47 hl rfl (by decide) (by decide) (fun _ => rfl) (fun x3_7 ls hl => ?_)
        refine zz_goto (tgt := 9) C dX0_loseGrams_50 (by decide) ?_
        exact ih a0 x1 x2_6 x3_7 ha0 M_5 ls (lv_sub hl [3, 4, 1, 0] rfl)
def f_X0_loseGrams (a0 : Nat) (x1 : Int32) (M : zz_M) : Option (Int32 × zz_M) := zz_w ((zz_i M a0 1) - (1 : Int32)) (fun x3_1 => b_X0_loseGrams_9  zz_fuel a0 x1 (0 : Int32) x3_1 M)
set_option maxRecDepth 100000 in
set_option maxHeartbeats 4000000 in
theorem m_X0_loseGrams (l : Launch) (E : zz_E) (a0 : Nat) (x1 : Int32) (h0 : zz_sh a0 = 0) (M : zz_M) : zz_Met (zz_pi E) l yX0_loseGrams wsX0_loseGrams 2 E [.ref (E.1 + a0), .int x1] M (f_X0_loseGrams a0 x1 M) := by
  refine zz_met (cc := cX0_loseGrams) (nL := 5) (ret := (some .int)) (by decide) rfl (Nat.le_of_ble_eq_true rfl) ?_
  intro p e s m below meth c C hr ls hl
  have C : zz_C E RX0 cX0_loseGrams 5 wsX0_loseGrams p s m [.ref (E.1 + a0), .int x1].toArray meth c := C
  have hl : lv_has ls 5 [(0, .ref (E.1 + a0)), (1, .int x1)] := hl
  unfold f_X0_loseGrams
  refine zz_iconst (v := 0) C dX0_loseGrams_0 (by decide) ?_
  refine zz_istored_n (lv' := [(2, .int (0 : Int32)), (0, .ref (E.1 + a0)), (1, .int x1)]) C dX0_loseGrams_1 rfl hl (by decide) rfl (fun ls hl => ?_)
  refine zz_aload_n C dX0_loseGrams_2 rfl (lv_at hl 1 rfl) ?_
  refine zz_get C (zz_lt h0 (by decide)) (zz_c0 h0) rfl in_X0_loseGrams_X0 1 (by decide) (List.mem_of_getElem? (i := 1) rfl) rfl dX0_loseGrams_3 ?_
  refine zz_iconst (v := 1) C dX0_loseGrams_6 (by decide) ?_
  refine zz_isub C dX0_loseGrams_7 ?_
  refine zz_istore_n C (fun x3_1 => [(3, .int x3_1), (2, .int (0 : Int32)), (0, .ref (E.1 + a0)), (1, .int x1)]) dX0_loseGrams_8 rfl hl (by decide) (fun _ => rfl) (fun x3_1 ls hl => ?_)
  exact wb_X0_loseGrams_9 C hr  zz_fuel a0 x1 (0 : Int32) x3_1 h0 M ls (lv_sub hl [2, 3, 1, 0] rfl)
-- X0_burnDown ('X0', 'burnDown', '(I)V')
theorem in_X0_burnDown_X0 : ∀ w ∈ u_ws RX0 TX0 5, w ∈ wsX0_burnDown := fun _ h => List.mem_cons_of_mem _ (List.mem_append_right _ h)
def b_X0_burnDown_27 (k9 : Nat → Int32 → Int32 → zz_M → Option (Unit × zz_M)) (a0 : Nat) (x2 : Int32) (x3 : Int32) (st0 : Int32) (M : zz_M) : Option (Unit × zz_M) := if st0 = 0 then none else (if zz_in x3 40 = true then zz_w (if (if 0 ≤ (zz_i M (a0 + 1) (zz_n x3)) then (zz_i M (a0 + 1) (zz_n x3)) else 0 - (zz_i M (a0 + 1) (zz_n x3))) < (x2 / st0) then (if 0 ≤ (zz_i M (a0 + 1) (zz_n x3)) then (zz_i M (a0 + 1) (zz_n x3)) else 0 - (zz_i M (a0 + 1) (zz_n x3))) else (x2 / st0)) (fun x5_4 => zz_bd (f_X0_thin a0 x3 x5_4 M) (fun _ M_5 => zz_w (x2 - (x5_4 * st0)) (fun x2_6 => (if (zz_i M_5 a0 1) ≤ x3 then zz_w (x3 + (-1 : Int32)) (fun x3_8 => k9 a0 x2_6 x3_8 M_5) else some ((), M_5))))) else none)
set_option maxRecDepth 100000 in
set_option maxHeartbeats 4000000 in
theorem wb_X0_burnDown_27 {p : Program} {l : Launch} {e : Env} {s : State} {m : MethodId} {args : Array Value} {below : List Frame} {meth : Method} {c : Code} {E : zz_E} (C : zz_C E RX0 cX0_burnDown 6 wsX0_burnDown p s m args meth c) (hr : meth.sig.returnType = none) {k9 : Nat → Int32 → Int32 → zz_M → Option (Unit × zz_M)} (hk9 : ∀ (a0 : Nat) (x2 : Int32) (x3 : Int32) (ha0 : zz_sh a0 = 0) (M : zz_M) (ls : Array Slot), lv_has ls 6 [(0, .ref (E.1 + a0)), (2, .int x2), (3, .int x3)] → zz_Z E p l e (zz_rm 2) s m args below meth c (zz_Q (zz_pv E) E below args s) (k9 a0 x2 x3 M) M (F0 m 9 ls [])) : ∀ (a0 : Nat) (x2 : Int32) (x3 : Int32) (st0 : Int32) (ha0 : zz_sh a0 = 0) (M : zz_M) (ls : Array Slot), lv_has ls 6 [(0, .ref (E.1 + a0)), (2, .int x2), (3, .int x3)] → zz_Z E p l e (zz_rm 2) s m args below meth c (zz_Q (zz_pv E) E below args s) (b_X0_burnDown_27 k9 a0 x2 x3 st0 M) M (F0 m 27 ls [.int st0]) := by
  intro a0 x2 x3 st0 ha0 M ls hl
  unfold b_X0_burnDown_27
  refine zz_istored (lv' := [(4, .int st0), (0, .ref (E.1 + a0)), (2, .int x2), (3, .int x3)]) C dX0_burnDown_27 hl (by decide) rfl (fun ls hl => ?_)
  refine zz_iload_n C dX0_burnDown_29 rfl (lv_at hl 2 rfl) ?_
  refine zz_iload C dX0_burnDown_30 (lv_at hl 0 rfl) ?_
  refine zz_idiv C dX0_burnDown_32 ?_
  refine zz_aload_n C dX0_burnDown_33 rfl (lv_at hl 1 rfl) ?_
  refine zz_get C (zz_lt ha0 (by decide)) (zz_c0 ha0) rfl in_X0_burnDown_X0 4 (by decide) (List.mem_of_getElem? (i := 2) rfl) rfl dX0_burnDown_34 ?_
  refine zz_iload_n C dX0_burnDown_37 rfl (lv_at hl 3 rfl) ?_
  refine zz_iald C (zz_lt (zz_s0_4 ha0) (by decide)) (zz_c10 (zz_s0_4 ha0)) dX0_burnDown_38 ?_
  refine zz_mabs C hl.1 (List.mem_of_getElem? (i := 3) rfl) (List.mem_of_getElem? (i := 4) rfl) (List.mem_of_getElem? (i := 5) rfl) (List.mem_of_getElem? (i := 6) rfl) (Nat.le_of_ble_eq_true rfl) (Nat.le_of_ble_eq_true rfl) dX0_burnDown_39 ?_
  refine zz_mmin C hl.1 (List.mem_of_getElem? (i := 7) rfl) (List.mem_of_getElem? (i := 8) rfl) (List.mem_of_getElem? (i := 5) rfl) (List.mem_of_getElem? (i := 9) rfl) (Nat.le_of_ble_eq_true rfl) (Nat.le_of_ble_eq_true rfl) dX0_burnDown_42 ?_
  refine zz_istore C (fun x5_4 => [(5, .int x5_4), (4, .int st0), (0, .ref (E.1 + a0)), (2, .int x2), (3, .int x3)]) dX0_burnDown_45 hl (by decide) (fun _ => rfl) (fun x5_4 ls hl => ?_)
  refine zz_aload_n C dX0_burnDown_47 rfl (lv_at hl 2 rfl) ?_
  refine zz_iload_n C dX0_burnDown_48 rfl (lv_at hl 4 rfl) ?_
  refine zz_iload C dX0_burnDown_49 (lv_at hl 0 rfl) ?_
  refine zz_callVv (As := [.int x3, .int x5_4]) (rest := []) C (m_X0_thin l E a0 x3 x5_4 ha0 M) (cwV 2 C.1.2.2.2.2 gX0_burnDown_X0_thin rfl rfl rfl hdV_X0_thin ⟨Nat.le_of_ble_eq_true rfl, Nat.le_of_ble_eq_true rfl⟩) (zz_lt ha0 (by decide)) (zz_c0 ha0) rfl rfl hl.1 rfl (Nat.le_of_ble_eq_true rfl) dX0_burnDown_51 (fun _ M_5 => ?_)
  refine zz_iload_n C dX0_burnDown_54 rfl (lv_at hl 3 rfl) ?_
  refine zz_iload C dX0_burnDown_55 (lv_at hl 0 rfl) ?_
  refine zz_iload C dX0_burnDown_57 (lv_at hl 1 rfl) ?_
  refine zz_imul C dX0_burnDown_59 ?_
  refine zz_isub C dX0_burnDown_60 ?_
  refine zz_istore_n C (fun x2_6 => [(2, .int x2_6), (5, .int x5_4), (4, .int st0), (0, .ref (E.1 + a0)), (3, .int x3)]) dX0_burnDown_61 rfl hl (by decide) (fun _ => rfl) (fun x2_6 ls hl => ?_)
  refine zz_aload_n C dX0_burnDown_62 rfl (lv_at hl 3 rfl) ?_
  refine zz_get C (zz_lt ha0 (by decide)) (zz_c0 ha0) rfl in_X0_burnDown_X0 1 (by decide) (List.mem_of_getElem? (i := 1) rfl) rfl dX0_burnDown_63 ?_
  refine zz_iload_n C dX0_burnDown_66 rfl (lv_at hl 4 rfl) ?_
  refine zz_icmp_le (tgt := 73) C dX0_burnDown_67 (by decide) (fun c_7 => ?_) (fun c_7 => ?_)
  · refine zz_iinc (k9 := 4) (d := -1) C (fun x3_8 => [(3, .int x3_8), (2, .int x2_6), (5, .int x5_4), (4, .int st0), (0, .ref (E.1 + a0))]) dX0_burnDown_73 hl rfl (by decide) (by decide) (fun _ => rfl) (fun x3_8 ls hl => ?_)
    refine zz_goto (tgt := 9) C dX0_burnDown_76 (by decide) ?_
    exact hk9 a0 x2_6 x3_8 ha0 M_5 ls (lv_sub hl [4, 1, 0] rfl)
  · refine zz_goto (tgt := 79) C dX0_burnDown_70 (by decide) ?_
    exact zz_vret C hr dX0_burnDown_79
def b_X0_burnDown_9 : Nat → Nat → Int32 → Int32 → zz_M → Option (Unit × zz_M)
  | 0 => fun _ _ _ _ => none
  | n + 1 => fun a0 x2 x3 M => (if x3 < 0 then some ((), M) else (if zz_in x3 40 = true then (if 0 ≤ (zz_i M (a0 + 1) (zz_n x3)) then b_X0_burnDown_27 (b_X0_burnDown_9 n) a0 x2 x3 (3 : Int32) M else b_X0_burnDown_27 (b_X0_burnDown_9 n) a0 x2 x3 (5 : Int32) M) else none))
set_option maxRecDepth 100000 in
set_option maxHeartbeats 4000000 in
theorem wb_X0_burnDown_9 {p : Program} {l : Launch} {e : Env} {s : State} {m : MethodId} {args : Array Value} {below : List Frame} {meth : Method} {c : Code} {E : zz_E} (C : zz_C E RX0 cX0_burnDown 6 wsX0_burnDown p s m args meth c) (hr : meth.sig.returnType = none) : ∀ (n : Nat) (a0 : Nat) (x2 : Int32) (x3 : Int32) (ha0 : zz_sh a0 = 0) (M : zz_M) (ls : Array Slot), lv_has ls 6 [(0, .ref (E.1 + a0)), (2, .int x2), (3, .int x3)] → zz_Z E p l e (zz_rm 2) s m args below meth c (zz_Q (zz_pv E) E below args s) (b_X0_burnDown_9 n a0 x2 x3 M) M (F0 m 9 ls []) := by
  intro n
  induction n with
  | zero => intro a0 x2 x3 ha0 M ls hl; exact zz_none
  | succ n ih =>
    intro a0 x2 x3 ha0 M ls hl
    rw [b_X0_burnDown_9]
    refine zz_iload_n C dX0_burnDown_9 rfl (lv_at hl 2 rfl) ?_
    refine zz_if_lt (tgt := 79) C dX0_burnDown_10 (by decide) (fun c_2 => ?_) (fun c_2 => ?_)
    · exact zz_vret C hr dX0_burnDown_79
    · refine zz_aload_n C dX0_burnDown_13 rfl (lv_at hl 0 rfl) ?_
      refine zz_get C (zz_lt ha0 (by decide)) (zz_c0 ha0) rfl in_X0_burnDown_X0 4 (by decide) (List.mem_of_getElem? (i := 2) rfl) rfl dX0_burnDown_14 ?_
      refine zz_iload_n C dX0_burnDown_17 rfl (lv_at hl 2 rfl) ?_
      refine zz_iald C (zz_lt (zz_s0_4 ha0) (by decide)) (zz_c10 (zz_s0_4 ha0)) dX0_burnDown_18 ?_
      refine zz_if_ge (tgt := 26) C dX0_burnDown_19 (by decide) (fun c_3 => ?_) (fun c_3 => ?_)
      · refine zz_iconst (v := 3) C dX0_burnDown_26 (by decide) ?_
        exact wb_X0_burnDown_27 C hr ih a0 x2 x3 (3 : Int32) ha0 M ls (lv_sub hl [0, 1, 2] rfl)
      · refine zz_iconst (v := 5) C dX0_burnDown_22 (by decide) ?_
        refine zz_goto (tgt := 27) C dX0_burnDown_23 (by decide) ?_
        exact wb_X0_burnDown_27 C hr ih a0 x2 x3 (5 : Int32) ha0 M ls (lv_sub hl [0, 1, 2] rfl)
def f_X0_burnDown (a0 : Nat) (x1 : Int32) (M : zz_M) : Option (Unit × zz_M) := zz_w ((zz_i M a0 1) - (1 : Int32)) (fun x3_1 => b_X0_burnDown_9  zz_fuel a0 x1 x3_1 M)
set_option maxRecDepth 100000 in
set_option maxHeartbeats 4000000 in
theorem m_X0_burnDown (l : Launch) (E : zz_E) (a0 : Nat) (x1 : Int32) (h0 : zz_sh a0 = 0) (M : zz_M) : zz_Met (zz_pv E) l yX0_burnDown wsX0_burnDown 2 E [.ref (E.1 + a0), .int x1] M (f_X0_burnDown a0 x1 M) := by
  refine zz_met (cc := cX0_burnDown) (nL := 6) (ret := none) (by decide) rfl (Nat.le_of_ble_eq_true rfl) ?_
  intro p e s m below meth c C hr ls hl
  have C : zz_C E RX0 cX0_burnDown 6 wsX0_burnDown p s m [.ref (E.1 + a0), .int x1].toArray meth c := C
  have hl : lv_has ls 6 [(0, .ref (E.1 + a0)), (1, .int x1)] := hl
  unfold f_X0_burnDown
  refine zz_iload_n C dX0_burnDown_0 rfl (lv_at hl 1 rfl) ?_
  refine zz_istored_n (lv' := [(2, .int x1), (0, .ref (E.1 + a0)), (1, .int x1)]) C dX0_burnDown_1 rfl hl (by decide) rfl (fun ls hl => ?_)
  refine zz_aload_n C dX0_burnDown_2 rfl (lv_at hl 1 rfl) ?_
  refine zz_get C (zz_lt h0 (by decide)) (zz_c0 h0) rfl in_X0_burnDown_X0 1 (by decide) (List.mem_of_getElem? (i := 1) rfl) rfl dX0_burnDown_3 ?_
  refine zz_iconst (v := 1) C dX0_burnDown_6 (by decide) ?_
  refine zz_isub C dX0_burnDown_7 ?_
  refine zz_istore_n C (fun x3_1 => [(3, .int x3_1), (2, .int x1), (0, .ref (E.1 + a0)), (1, .int x1)]) dX0_burnDown_8 rfl hl (by decide) (fun _ => rfl) (fun x3_1 ls hl => ?_)
  exact wb_X0_burnDown_9 C hr  zz_fuel a0 x1 x3_1 h0 M ls (lv_sub hl [2, 1, 0] rfl)
-- X0_dipInto ('X0', 'dipInto', '(LFortyDips$Vat;)V')
theorem in_X0_dipInto_X6 : ∀ w ∈ u_ws RX6 TX6 4, w ∈ wsX0_dipInto := fun _ h => List.mem_cons_of_mem _ (List.mem_append_left _ (List.mem_append_right _ h))
theorem hdV_X0_addLayer : yX0_addLayer.cls = RX0 ∧ yX0_addLayer.cls ≠ "java/lang/invoke/MethodHandle" ∧ yX0_addLayer.cls ≠ "java/lang/invoke/VarHandle" ∧ (parseMethodDescriptor yX0_addLayer.desc).map (fun d => d.parameters.length) = some 2 := by decide +kernel
theorem hdV_X0_gain : yX0_gain.cls = RX0 ∧ yX0_gain.cls ≠ "java/lang/invoke/MethodHandle" ∧ yX0_gain.cls ≠ "java/lang/invoke/VarHandle" ∧ (parseMethodDescriptor yX0_gain.desc).map (fun d => d.parameters.length) = some 1 := by decide +kernel
theorem hdV_X0_loseGrams : yX0_loseGrams.cls = RX0 ∧ yX0_loseGrams.cls ≠ "java/lang/invoke/MethodHandle" ∧ yX0_loseGrams.cls ≠ "java/lang/invoke/VarHandle" ∧ (parseMethodDescriptor yX0_loseGrams.desc).map (fun d => d.parameters.length) = some 1 := by decide +kernel
theorem hdV_X6_cool : yX6_cool.cls = RX6 ∧ yX6_cool.cls ≠ "java/lang/invoke/MethodHandle" ∧ yX6_cool.cls ≠ "java/lang/invoke/VarHandle" ∧ (parseMethodDescriptor yX6_cool.desc).map (fun d => d.parameters.length) = some 1 := by decide +kernel
theorem hdV_X6_pourIn : yX6_pourIn.cls = RX6 ∧ yX6_pourIn.cls ≠ "java/lang/invoke/MethodHandle" ∧ yX6_pourIn.cls ≠ "java/lang/invoke/VarHandle" ∧ (parseMethodDescriptor yX6_pourIn.desc).map (fun d => d.parameters.length) = some 1 := by decide +kernel
theorem hdV_X6_pourOut : yX6_pourOut.cls = RX6 ∧ yX6_pourOut.cls ≠ "java/lang/invoke/MethodHandle" ∧ yX6_pourOut.cls ≠ "java/lang/invoke/VarHandle" ∧ (parseMethodDescriptor yX6_pourOut.desc).map (fun d => d.parameters.length) = some 1 := by decide +kernel
def f_X0_dipInto (a0 : Nat) (a1 : Nat) (M : zz_M) : Option (Unit × zz_M) := zz_bd (f_X0_isThick a0 M) (fun r_1 M_2 => (if r_1 = 0 then zz_bd (f_X0_gain a0 (zz_i M_2 a1 1) M_2) (fun r_4 M_5 => (if r_4 ≤ 0 then zz_bd (f_X0_loseGrams a0 (-r_4) M_5) (fun r_7 M_8 => zz_bd (f_X6_pourIn a1 r_7 M_8) (fun _ M_9 => zz_bd (f_X6_cool a1 (2 : Int32) M_9) (fun _ M_10 => some ((), M_10)))) else zz_bd (f_X6_pourOut a1 r_4 M_5) (fun r_11 M_12 => zz_bd (f_X0_addLayer a0 r_11 (zz_i M_12 a1 0) M_12) (fun _ M_13 => zz_bd (f_X6_cool a1 (2 : Int32) M_13) (fun _ M_14 => some ((), M_14)))))) else some ((), M_2)))
set_option maxRecDepth 100000 in
set_option maxHeartbeats 4000000 in
theorem m_X0_dipInto (l : Launch) (E : zz_E) (a0 : Nat) (a1 : Nat) (h0 : zz_sh a0 = 0) (h1 : zz_sh a1 = 6) (M : zz_M) : zz_Met (zz_pv E) l yX0_dipInto wsX0_dipInto 3 E [.ref (E.1 + a0), .ref (E.1 + a1)] M (f_X0_dipInto a0 a1 M) := by
  refine zz_met (cc := cX0_dipInto) (nL := 3) (ret := none) (by decide) rfl (Nat.le_of_ble_eq_true rfl) ?_
  intro p e s m below meth c C hr ls hl
  have C : zz_C E RX0 cX0_dipInto 3 wsX0_dipInto p s m [.ref (E.1 + a0), .ref (E.1 + a1)].toArray meth c := C
  have hl : lv_has ls 3 [(0, .ref (E.1 + a0)), (1, .ref (E.1 + a1))] := hl
  unfold f_X0_dipInto
  refine zz_aload_n C dX0_dipInto_0 rfl (lv_at hl 0 rfl) ?_
  refine zz_callVi (As := []) (rest := []) C (m_X0_isThick l E a0 h0 M) (cwV 0 C.1.2.2.2.2 gX0_dipInto_X0_isThick rfl rfl rfl hdV_X0_isThick ⟨Nat.le_of_ble_eq_true rfl, Nat.le_of_ble_eq_true rfl⟩) (zz_lt h0 (by decide)) (zz_c0 h0) rfl rfl hl.1 rfl (Nat.le_of_ble_eq_true rfl) dX0_dipInto_1 (fun r_1 M_2 => ?_)
  refine zz_if_eq (tgt := 8) C dX0_dipInto_4 (by decide) (fun c_3 => ?_) (fun c_3 => ?_)
  · refine zz_aload_n C dX0_dipInto_8 rfl (lv_at hl 0 rfl) ?_
    refine zz_aload_n C dX0_dipInto_9 rfl (lv_at hl 1 rfl) ?_
    refine zz_get C (zz_lt h1 (by decide)) (zz_c6 h1) rfl in_X0_dipInto_X6 1 (by decide) (List.mem_of_getElem? (i := 1) rfl) rfl dX0_dipInto_10 ?_
    refine zz_callVi (As := [.int (zz_i M_2 a1 1)]) (rest := []) C (m_X0_gain l E a0 (zz_i M_2 a1 1) h0 M_2) (cwV 1 C.1.2.2.2.2 gX0_dipInto_X0_gain rfl rfl rfl hdV_X0_gain ⟨Nat.le_of_ble_eq_true rfl, Nat.le_of_ble_eq_true rfl⟩) (zz_lt h0 (by decide)) (zz_c0 h0) rfl rfl hl.1 rfl (Nat.le_of_ble_eq_true rfl) dX0_dipInto_13 (fun r_4 M_5 => ?_)
    refine zz_istored_n (lv' := [(2, .int r_4), (0, .ref (E.1 + a0)), (1, .ref (E.1 + a1))]) C dX0_dipInto_16 rfl hl (by decide) rfl (fun ls hl => ?_)
    refine zz_iload_n C dX0_dipInto_17 rfl (lv_at hl 0 rfl) ?_
    refine zz_if_le (tgt := 37) C dX0_dipInto_18 (by decide) (fun c_6 => ?_) (fun c_6 => ?_)
    · refine zz_aload_n C dX0_dipInto_37 rfl (lv_at hl 2 rfl) ?_
      refine zz_aload_n C dX0_dipInto_38 rfl (lv_at hl 1 rfl) ?_
      refine zz_iload_n C dX0_dipInto_39 rfl (lv_at hl 0 rfl) ?_
      refine zz_ineg C dX0_dipInto_40 ?_
      refine zz_callVi (As := [.int (-r_4)]) (rest := [.ref (E.1 + a1)]) C (m_X0_loseGrams l E a0 (-r_4) h0 M_5) (cwV 1 C.1.2.2.2.2 gX0_dipInto_X0_loseGrams rfl rfl rfl hdV_X0_loseGrams ⟨Nat.le_of_ble_eq_true rfl, Nat.le_of_ble_eq_true rfl⟩) (zz_lt h0 (by decide)) (zz_c0 h0) rfl rfl hl.1 rfl (Nat.le_of_ble_eq_true rfl) dX0_dipInto_41 (fun r_7 M_8 => ?_)
      refine zz_callVv (As := [.int r_7]) (rest := []) C (m_X6_pourIn l E a1 r_7 h1 M_8) (cwV 1 C.1.2.2.2.2 gX0_dipInto_X6_pourIn rfl rfl rfl hdV_X6_pourIn ⟨Nat.le_of_ble_eq_true rfl, Nat.le_of_ble_eq_true rfl⟩) (zz_lt h1 (by decide)) (zz_c6 h1) rfl rfl hl.1 rfl (Nat.le_of_ble_eq_true rfl) dX0_dipInto_44 (fun _ M_9 => ?_)
      refine zz_aload_n C dX0_dipInto_47 rfl (lv_at hl 2 rfl) ?_
      refine zz_iconst (v := 2) C dX0_dipInto_48 (by decide) ?_
      refine zz_callVv (As := [.int (2 : Int32)]) (rest := []) C (m_X6_cool l E a1 (2 : Int32) h1 M_9) (cwV 1 C.1.2.2.2.2 gX0_dipInto_X6_cool rfl rfl rfl hdV_X6_cool ⟨Nat.le_of_ble_eq_true rfl, Nat.le_of_ble_eq_true rfl⟩) (zz_lt h1 (by decide)) (zz_c6 h1) rfl rfl hl.1 rfl (Nat.le_of_ble_eq_true rfl) dX0_dipInto_49 (fun _ M_10 => ?_)
      exact zz_vret C hr dX0_dipInto_52
    · refine zz_aload_n C dX0_dipInto_21 rfl (lv_at hl 1 rfl) ?_
      refine zz_aload_n C dX0_dipInto_22 rfl (lv_at hl 2 rfl) ?_
      refine zz_iload_n C dX0_dipInto_23 rfl (lv_at hl 0 rfl) ?_
      refine zz_callVi (As := [.int r_4]) (rest := [.ref (E.1 + a0)]) C (m_X6_pourOut l E a1 r_4 h1 M_5) (cwV 1 C.1.2.2.2.2 gX0_dipInto_X6_pourOut rfl rfl rfl hdV_X6_pourOut ⟨Nat.le_of_ble_eq_true rfl, Nat.le_of_ble_eq_true rfl⟩) (zz_lt h1 (by decide)) (zz_c6 h1) rfl rfl hl.1 rfl (Nat.le_of_ble_eq_true rfl) dX0_dipInto_24 (fun r_11 M_12 => ?_)
      refine zz_aload_n C dX0_dipInto_27 rfl (lv_at hl 2 rfl) ?_
      refine zz_get C (zz_lt h1 (by decide)) (zz_c6 h1) rfl in_X0_dipInto_X6 0 (by decide) (List.mem_of_getElem? (i := 2) rfl) rfl dX0_dipInto_28 ?_
      refine zz_callVv (As := [.int r_11, .int (zz_i M_12 a1 0)]) (rest := []) C (m_X0_addLayer l E a0 r_11 (zz_i M_12 a1 0) h0 M_12) (cwV 2 C.1.2.2.2.2 gX0_dipInto_X0_addLayer rfl rfl rfl hdV_X0_addLayer ⟨Nat.le_of_ble_eq_true rfl, Nat.le_of_ble_eq_true rfl⟩) (zz_lt h0 (by decide)) (zz_c0 h0) rfl rfl hl.1 rfl (Nat.le_of_ble_eq_true rfl) dX0_dipInto_31 (fun _ M_13 => ?_)
      refine zz_goto (tgt := 47) C dX0_dipInto_34 (by decide) ?_
      refine zz_aload_n C dX0_dipInto_47 rfl (lv_at hl 2 rfl) ?_
      refine zz_iconst (v := 2) C dX0_dipInto_48 (by decide) ?_
      refine zz_callVv (As := [.int (2 : Int32)]) (rest := []) C (m_X6_cool l E a1 (2 : Int32) h1 M_13) (cwV 1 C.1.2.2.2.2 gX0_dipInto_X6_cool rfl rfl rfl hdV_X6_cool ⟨Nat.le_of_ble_eq_true rfl, Nat.le_of_ble_eq_true rfl⟩) (zz_lt h1 (by decide)) (zz_c6 h1) rfl rfl hl.1 rfl (Nat.le_of_ble_eq_true rfl) dX0_dipInto_49 (fun _ M_14 => ?_)
      exact zz_vret C hr dX0_dipInto_52
  · exact zz_vret C hr dX0_dipInto_7
