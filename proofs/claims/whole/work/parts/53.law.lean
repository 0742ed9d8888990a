/-- the law's judgement: with memory M, at g, it comes to its end -/
def zw_Z (E : zz_E) (p : Program) (l : Launch) (e : Env) (s : State) (m : MethodId) (b : Nat) (below : List Frame) (meth : Method) (c : Code) (cl sl : Nat) (M : zz_M) (g : JFrame) : Prop :=
  ∀ (H : Heap) (locs : List Loc), va_P E.2.1 vwCl (zz_W E M) H → va_S (zz_A E) s.heap H locs → W p l e room_1 s m #[Value.ref b] below meth c H locs cl sl (lw_Z below #[Value.ref b] s) g
/-- class and reference answer alike, and what is known stays known -/
def zw_eq (Inv : zz_M → Prop) {ρ : Type} (g h : zz_M → Option (ρ × zz_M)) (M : zz_M) : Prop := ∃ (r : ρ) (M1 M2 : zz_M), g M = some (r, M1) ∧ h M1 = some (r, M2) ∧ Inv M2
section ZW
variable {p : Program} {l : Launch} {e : Env} {s : State} {m : MethodId} {b : Nat} {below : List Frame} {meth : Method} {c : Code}
variable {E : zz_E} {own : String} {cc : ByteArray} {nL : Nat} {Ts : List Cond} {M : zz_M} {pc : Nat} {ls : Array Slot} {rest : List Value} {cl sl : Nat} {L : Nat} {xs : Nat → Int32}
theorem zw_step {g g2 : JFrame} (h : ∀ (H : Heap) (locs : List Loc), W p l e room_1 s m #[Value.ref b] below meth c H locs cl sl (lw_Z below #[Value.ref b] s) g2 → W p l e room_1 s m #[Value.ref b] below meth c H locs cl sl (lw_Z below #[Value.ref b] s) g) (k : zw_Z E p l e s m b below meth c cl sl M g2) : zw_Z E p l e s m b below meth c cl sl M g := fun H locs hP hS => h H locs (k H locs hP hS)
/-- a number of the script behind its place -/
theorem zw_arg (C : zz_C E own cc nL Ts p s m #[Value.ref b] meth c) (hX : va_X b L xs s s.heap) (hbl : b < s.heap.size) (hE : E.1 = s.heap.size) {i k : Nat} {x3 : Int32} {lv : List (Nat × Value)} {p0 p3 : Nat} (hl : lv_has ls nL lv) (h0 : lv[p0]? = some (0, .ref b)) (h3 : lv[p3]? = some (3, .int x3)) (hx3 : x3 = nI i) (hi : i + k < L) (hL : L < 2 ^ 31) {v : Int} (hv : Int32.ofInt v = nI k)
    (d0 : decode cc pc = .ok (.aload_n 0, 1)) (d1 : decode cc (pc + 1) = .ok (.iload_n 3, 1)) (d2 : decode cc (pc + 2) = .ok (.iconst v, 1)) (d3 : decode cc (pc + 3) = .ok (.iadd, 1)) (d4 : decode cc (pc + 4) = .ok (.iaload, 1))
    (kk : zw_Z E p l e s m b below meth c cl sl M (F0 m (pc + 5) ls (.int (xs (i + k)) :: rest))) : zw_Z E p l e s m b below meth c cl sl M (F0 m pc ls rest) := fun H locs hP hS => by
  have hbA : ¬ zz_A E b := by unfold zz_A; rw [hE]; exact Nat.not_le.mpr hbl
  refine lv_aload_n C.1.1 C.1.2.1 d0 rfl (lv_at hl p0 h0) ?_
  refine lv_iload_n C.1.1 C.1.2.1 d1 rfl (lv_at hl p3 h3) ?_
  refine lv_iconst (v := nI k) C.1.1 C.1.2.1 d2 hv ?_
  refine lv_iadd C.1.1 C.1.2.1 d3 ?_
  rw [hx3, nI_add]
  refine va_sld C.1.1 C.1.2.1 hX hbl hbA hS (vp_in_nI hi hL) d4 ?_
  rw [nI_clamp (by omega)]
  exact kk H locs hP hS
theorem zw_callVi (C : zz_C E own cc nL Ts p s m #[Value.ref b] meth c) {y : MethodName} {ws : List Cond} {h index maxL n : Nat} {bytes : ByteArray} {ret : Option FieldType} {st As : List Value} {q : Option (Int32 × zz_M)} {r9 : Int32} {M9 : zz_M} {Cn : String} {a ci : Nat} {qq : u_T × Nat} {fs : List Value} (hM : zz_Met (zz_pi E) l y ws h E (.ref (E.1 + a) :: As) M q) (hq : q = some (r9, M9)) (cw : CallW room_1 s #[Value.ref b] own Cn index y bytes maxL ret ws (zz_rm h) 0 0 n) (ha : a < 141) (hcell : zz_cell E M a = .inr (ci, fs)) (hc : vwCl[ci]? = some (Cn, qq)) (hn : As.length = n) (hls : ls.size = nL) (hst : st = As.reverse ++ .ref (E.1 + a) :: rest) (hW : (rest.map fun v => v.category).sum ≤ 8) (hdg : decode cc pc = .ok (.invokevirtual index, 3)) (hcl : cl ≤ room_1.cells) (hsl : sl ≤ room_1.slots) (kk : zw_Z E p l e s m b below meth c cl sl M9 (F0 m (pc + 3) ls (.int r9 :: rest))) : zw_Z E p l e s m b below meth c cl sl M (F0 m pc ls st) := fun H locs hP hS => by
  refine va_calli (va_runV (As := As) (rest := rest) C.1 (hM r9 M9 hq) cw ⟨zz_blind E M _, va_recv C.2.1.1 hP hc ((zz_W_at ha).trans (by rw [hcell])), fun U hU hW => ⟨rfl, by rw [hU]; exact hP, va_K.moved hW.alike C.2.1.1, C.2.1.2.1.warm hW, C.2.1.2.2.warm hW (by rw [hU]; exact hS.2.1)⟩⟩ rfl hn hls hst (by show 2 * 0 + _ ≤ 8; omega) hdg ⟨hcl, hsl⟩) hS (fun q _ h => h) (fun q h => h) (fun r8 u t H1 locs1 ht hvm hw hB hz1 hk1 hS1 => by
    obtain ⟨rfl, rfl⟩ := hw
    exact kk H1 locs1 (by rw [← ht]; exact hB) hS1)
theorem zw_callVl (C : zz_C E own cc nL Ts p s m #[Value.ref b] meth c) {y : MethodName} {ws : List Cond} {h index maxL n : Nat} {bytes : ByteArray} {ret : Option FieldType} {st As : List Value} {q : Option (Int64 × zz_M)} {r9 : Int64} {M9 : zz_M} {Cn : String} {a ci : Nat} {qq : u_T × Nat} {fs : List Value} (hM : zz_Met (zz_pl E) l y ws h E (.ref (E.1 + a) :: As) M q) (hq : q = some (r9, M9)) (cw : CallW room_1 s #[Value.ref b] own Cn index y bytes maxL ret ws (zz_rm h) 0 0 n) (ha : a < 141) (hcell : zz_cell E M a = .inr (ci, fs)) (hc : vwCl[ci]? = some (Cn, qq)) (hn : As.length = n) (hls : ls.size = nL) (hst : st = As.reverse ++ .ref (E.1 + a) :: rest) (hW : (rest.map fun v => v.category).sum ≤ 8) (hdg : decode cc pc = .ok (.invokevirtual index, 3)) (hcl : cl ≤ room_1.cells) (hsl : sl ≤ room_1.slots) (kk : zw_Z E p l e s m b below meth c cl sl M9 (F0 m (pc + 3) ls (.long r9 :: rest))) : zw_Z E p l e s m b below meth c cl sl M (F0 m pc ls st) := fun H locs hP hS => by
  refine va_calll (va_runV (As := As) (rest := rest) C.1 (hM r9 M9 hq) cw ⟨zz_blind E M _, va_recv C.2.1.1 hP hc ((zz_W_at ha).trans (by rw [hcell])), fun U hU hW => ⟨rfl, by rw [hU]; exact hP, va_K.moved hW.alike C.2.1.1, C.2.1.2.1.warm hW, C.2.1.2.2.warm hW (by rw [hU]; exact hS.2.1)⟩⟩ rfl hn hls hst (by show 2 * 0 + _ ≤ 8; omega) hdg ⟨hcl, hsl⟩) hS (fun q _ h => h) (fun q h => h) (fun r8 u t H1 locs1 ht hvm hw hB hz1 hk1 hS1 => by
    obtain ⟨rfl, rfl⟩ := hw
    exact kk H1 locs1 (by rw [← ht]; exact hB) hS1)
end ZW
/-- what is to be shown of every call -/
def zw_ok (Inv : zz_M → Prop) : Prop := ∀ M : zz_M, Inv M → (∀ (x1 : Int32) (x2 : Int32), zw_eq Inv (f_X8_vatOf 0 x1 x2) (f_X9_vatOf 129 x1 x2) M) ∧ (∀ (x1 : Int32) (x2 : Int32) (x3 : Int32), zw_eq Inv (f_X8_vat 0 x1 x2 x3) (f_X9_vat 129 x1 x2 x3) M) ∧ (∀ (x1 : Int32) (x2 : Int32), zw_eq Inv (f_X8_let 0 x1 x2) (f_X9_let 129 x1 x2) M) ∧ (∀ (x1 : Int32), zw_eq Inv (f_X8_candle 0 x1) (f_X9_candle 129 x1) M) ∧ (∀ (x1 : Int32) (x2 : Int32), zw_eq Inv (f_X8_of 0 x1 x2) (f_X9_of 129 x1 x2) M) ∧ (∀ (x1 : Int32) (x2 : Int32), zw_eq Inv (f_X8_layer 0 x1 x2) (f_X9_layer 129 x1 x2) M) ∧ (∀ (x1 : Int32) (x2 : Int32), zw_eq Inv (f_X8_turn 0 x1 x2) (f_X9_turn 129 x1 x2) M) ∧ (∀ (x1 : Int32) (x2 : Int32), zw_eq Inv (f_X8_as 0 x1 x2) (f_X9_as 129 x1 x2) M) ∧ (∀ (x1 : Int32) (x2 : Int32), zw_eq Inv (f_X8_takes 0 x1 x2) (f_X9_takes 129 x1 x2) M) ∧ (∀ (x1 : Int32) (x2 : Int32), zw_eq Inv (f_X8_dip 0 x1 x2) (f_X9_dip 129 x1 x2) M) ∧ (∀ (x1 : Int32) (x2 : Int32), zw_eq Inv (f_X8_melt 0 x1 x2) (f_X9_melt 129 x1 x2) M) ∧ (∀ (x1 : Int32) (x2 : Int32), zw_eq Inv (f_X8_burn 0 x1 x2) (f_X9_burn 129 x1 x2) M) ∧ (∀ (x1 : Int32), zw_eq Inv (f_X8_hours 0 x1) (f_X9_hours 129 x1) M) ∧ (∀ (x1 : Int32), zw_eq Inv (f_X8_now 0 x1) (f_X9_now 129 x1) M) ∧ (∀ (x1 : Int32) (x2 : Int32), zw_eq Inv (f_X8_warm 0 x1 x2) (f_X9_warm 129 x1 x2) M) ∧ (∀ (x1 : Int32) (x2 : Int32), zw_eq Inv (f_X8_when 0 x1 x2) (f_X9_when 129 x1 x2) M) ∧ (∀ (x1 : Int32) (x2 : Int32) (x3 : Int32), zw_eq Inv (f_X8_takesIn 0 x1 x2 x3) (f_X9_takesIn 129 x1 x2 x3) M) ∧ (∀ (x1 : Int32) (x2 : Int32) (x3 : Int32), zw_eq Inv (f_X8_burns 0 x1 x2 x3) (f_X9_burns 129 x1 x2 x3) M) ∧ (∀ (x1 : Int32) (x2 : Int32), zw_eq Inv (f_X8_fewest 0 x1 x2) (f_X9_fewest 129 x1 x2) M) ∧ (∀ (x1 : Int32) (x2 : Int32) (x3 : Int32), zw_eq Inv (f_X8_ith 0 x1 x2 x3) (f_X9_ith 129 x1 x2 x3) M) ∧ (∀ (x1 : Int32) (x2 : Int32) (x3 : Int32), zw_eq Inv (f_X8_ways 0 x1 x2 x3) (f_X9_ways 129 x1 x2 x3) M) ∧ (∀ (x1 : Int32) (x2 : Int32), zw_eq Inv (f_X8_most 0 x1 x2) (f_X9_most 129 x1 x2) M) ∧ (∀ (x1 : Int32), zw_eq Inv (f_X8_best 0 x1) (f_X9_best 129 x1) M) ∧ (∀ (x1 : Int32) (x2 : Int32) (x3 : Int32), zw_eq Inv (f_X8_kind 0 x1 x2 x3) (f_X9_kind 129 x1 x2 x3) M) ∧ (∀ (x1 : Int32) (x2 : Int32), zw_eq Inv (f_X8_fires 0 x1 x2) (f_X9_fires 129 x1 x2) M) ∧ (∀ (x1 : Int32), zw_eq Inv (f_X8_enough 0 x1) (f_X9_enough 129 x1) M) ∧ (∀ (x1 : Int32) (x2 : Int32), zw_eq Inv (f_X8_feed 0 x1 x2) (f_X9_feed 129 x1 x2) M) ∧ (zw_eq Inv (f_X8_wipe 0) (f_X9_wipe 129) M) ∧ (zw_eq Inv (f_X8_text 0) (f_X9_text 129) M) ∧ (∀ (x1 : Int32) (x2 : Int32) (x3 : Int32), zw_eq Inv (f_X8_sheet 0 x1 x2 x3) (f_X9_sheet 129 x1 x2 x3) M) ∧ (∀ (x1 : Int32) (x2 : Int32) (x3 : Int64), zw_eq Inv (f_X8_write 0 x1 x2 x3) (f_X9_write 129 x1 x2 x3) M) ∧ (∀ (x1 : Int32) (x2 : Int32) (x3 : Int32) (x4 : Int32) (x5 : Int32), zw_eq Inv (f_X8_copy 0 x1 x2 x3 x4 x5) (f_X9_copy 129 x1 x2 x3 x4 x5) M) ∧ (∀ (x1 : Int32) (x2 : Int32), zw_eq Inv (f_X8_lays 0 x1 x2) (f_X9_lays 129 x1 x2) M) ∧ (∀ (x1 : Int32) (x2 : Int32), zw_eq Inv (f_X8_show 0 x1 x2) (f_X9_show 129 x1 x2) M) ∧ (∀ (x1 : Int32) (x2 : Int32), zw_eq Inv (f_X8_read 0 x1 x2) (f_X9_read 129 x1 x2) M) ∧ (zw_eq Inv (f_X8_image 0) (f_X9_image 129) M) ∧ (zw_eq Inv (f_X8_undo 0) (f_X9_undo 129) M) ∧ (zw_eq Inv (f_X8_tear 0) (f_X9_tear 129) M) ∧ (∀ (x1 : Int32), zw_eq Inv (f_X8_count 0 x1) (f_X9_count 129 x1) M) ∧ (∀ (x1 : Int32), zw_eq Inv (f_X8_status 0 x1) (f_X9_status 129 x1) M)
theorem hdW_X8_vatOf : yX8_vatOf.cls = RX8 ∧ yX8_vatOf.cls ≠ "java/lang/invoke/MethodHandle" ∧ yX8_vatOf.cls ≠ "java/lang/invoke/VarHandle" ∧ (parseMethodDescriptor yX8_vatOf.desc).map (fun d => d.parameters.length) = some 2 := by decide +kernel
theorem hdW_X9_vatOf : yX9_vatOf.cls = RX9 ∧ yX9_vatOf.cls ≠ "java/lang/invoke/MethodHandle" ∧ yX9_vatOf.cls ≠ "java/lang/invoke/VarHandle" ∧ (parseMethodDescriptor yX9_vatOf.desc).map (fun d => d.parameters.length) = some 2 := by decide +kernel
theorem hdW_X8_vat : yX8_vat.cls = RX8 ∧ yX8_vat.cls ≠ "java/lang/invoke/MethodHandle" ∧ yX8_vat.cls ≠ "java/lang/invoke/VarHandle" ∧ (parseMethodDescriptor yX8_vat.desc).map (fun d => d.parameters.length) = some 3 := by decide +kernel
theorem hdW_X9_vat : yX9_vat.cls = RX9 ∧ yX9_vat.cls ≠ "java/lang/invoke/MethodHandle" ∧ yX9_vat.cls ≠ "java/lang/invoke/VarHandle" ∧ (parseMethodDescriptor yX9_vat.desc).map (fun d => d.parameters.length) = some 3 := by decide +kernel
theorem hdW_X8_let : yX8_let.cls = RX8 ∧ yX8_let.cls ≠ "java/lang/invoke/MethodHandle" ∧ yX8_let.cls ≠ "java/lang/invoke/VarHandle" ∧ (parseMethodDescriptor yX8_let.desc).map (fun d => d.parameters.length) = some 2 := by decide +kernel
theorem hdW_X9_let : yX9_let.cls = RX9 ∧ yX9_let.cls ≠ "java/lang/invoke/MethodHandle" ∧ yX9_let.cls ≠ "java/lang/invoke/VarHandle" ∧ (parseMethodDescriptor yX9_let.desc).map (fun d => d.parameters.length) = some 2 := by decide +kernel
theorem hdW_X8_candle : yX8_candle.cls = RX8 ∧ yX8_candle.cls ≠ "java/lang/invoke/MethodHandle" ∧ yX8_candle.cls ≠ "java/lang/invoke/VarHandle" ∧ (parseMethodDescriptor yX8_candle.desc).map (fun d => d.parameters.length) = some 1 := by decide +kernel
theorem hdW_X9_candle : yX9_candle.cls = RX9 ∧ yX9_candle.cls ≠ "java/lang/invoke/MethodHandle" ∧ yX9_candle.cls ≠ "java/lang/invoke/VarHandle" ∧ (parseMethodDescriptor yX9_candle.desc).map (fun d => d.parameters.length) = some 1 := by decide +kernel
theorem hdW_X8_of : yX8_of.cls = RX8 ∧ yX8_of.cls ≠ "java/lang/invoke/MethodHandle" ∧ yX8_of.cls ≠ "java/lang/invoke/VarHandle" ∧ (parseMethodDescriptor yX8_of.desc).map (fun d => d.parameters.length) = some 2 := by decide +kernel
theorem hdW_X9_of : yX9_of.cls = RX9 ∧ yX9_of.cls ≠ "java/lang/invoke/MethodHandle" ∧ yX9_of.cls ≠ "java/lang/invoke/VarHandle" ∧ (parseMethodDescriptor yX9_of.desc).map (fun d => d.parameters.length) = some 2 := by decide +kernel
theorem hdW_X8_layer : yX8_layer.cls = RX8 ∧ yX8_layer.cls ≠ "java/lang/invoke/MethodHandle" ∧ yX8_layer.cls ≠ "java/lang/invoke/VarHandle" ∧ (parseMethodDescriptor yX8_layer.desc).map (fun d => d.parameters.length) = some 2 := by decide +kernel
theorem hdW_X9_layer : yX9_layer.cls = RX9 ∧ yX9_layer.cls ≠ "java/lang/invoke/MethodHandle" ∧ yX9_layer.cls ≠ "java/lang/invoke/VarHandle" ∧ (parseMethodDescriptor yX9_layer.desc).map (fun d => d.parameters.length) = some 2 := by decide +kernel
theorem hdW_X8_turn : yX8_turn.cls = RX8 ∧ yX8_turn.cls ≠ "java/lang/invoke/MethodHandle" ∧ yX8_turn.cls ≠ "java/lang/invoke/VarHandle" ∧ (parseMethodDescriptor yX8_turn.desc).map (fun d => d.parameters.length) = some 2 := by decide +kernel
theorem hdW_X9_turn : yX9_turn.cls = RX9 ∧ yX9_turn.cls ≠ "java/lang/invoke/MethodHandle" ∧ yX9_turn.cls ≠ "java/lang/invoke/VarHandle" ∧ (parseMethodDescriptor yX9_turn.desc).map (fun d => d.parameters.length) = some 2 := by decide +kernel
theorem hdW_X8_as : yX8_as.cls = RX8 ∧ yX8_as.cls ≠ "java/lang/invoke/MethodHandle" ∧ yX8_as.cls ≠ "java/lang/invoke/VarHandle" ∧ (parseMethodDescriptor yX8_as.desc).map (fun d => d.parameters.length) = some 2 := by decide +kernel
theorem hdW_X9_as : yX9_as.cls = RX9 ∧ yX9_as.cls ≠ "java/lang/invoke/MethodHandle" ∧ yX9_as.cls ≠ "java/lang/invoke/VarHandle" ∧ (parseMethodDescriptor yX9_as.desc).map (fun d => d.parameters.length) = some 2 := by decide +kernel
theorem hdW_X8_takes : yX8_takes.cls = RX8 ∧ yX8_takes.cls ≠ "java/lang/invoke/MethodHandle" ∧ yX8_takes.cls ≠ "java/lang/invoke/VarHandle" ∧ (parseMethodDescriptor yX8_takes.desc).map (fun d => d.parameters.length) = some 2 := by decide +kernel
theorem hdW_X9_takes : yX9_takes.cls = RX9 ∧ yX9_takes.cls ≠ "java/lang/invoke/MethodHandle" ∧ yX9_takes.cls ≠ "java/lang/invoke/VarHandle" ∧ (parseMethodDescriptor yX9_takes.desc).map (fun d => d.parameters.length) = some 2 := by decide +kernel
theorem hdW_X8_dip : yX8_dip.cls = RX8 ∧ yX8_dip.cls ≠ "java/lang/invoke/MethodHandle" ∧ yX8_dip.cls ≠ "java/lang/invoke/VarHandle" ∧ (parseMethodDescriptor yX8_dip.desc).map (fun d => d.parameters.length) = some 2 := by decide +kernel
theorem hdW_X9_dip : yX9_dip.cls = RX9 ∧ yX9_dip.cls ≠ "java/lang/invoke/MethodHandle" ∧ yX9_dip.cls ≠ "java/lang/invoke/VarHandle" ∧ (parseMethodDescriptor yX9_dip.desc).map (fun d => d.parameters.length) = some 2 := by decide +kernel
theorem hdW_X8_melt : yX8_melt.cls = RX8 ∧ yX8_melt.cls ≠ "java/lang/invoke/MethodHandle" ∧ yX8_melt.cls ≠ "java/lang/invoke/VarHandle" ∧ (parseMethodDescriptor yX8_melt.desc).map (fun d => d.parameters.length) = some 2 := by decide +kernel
theorem hdW_X9_melt : yX9_melt.cls = RX9 ∧ yX9_melt.cls ≠ "java/lang/invoke/MethodHandle" ∧ yX9_melt.cls ≠ "java/lang/invoke/VarHandle" ∧ (parseMethodDescriptor yX9_melt.desc).map (fun d => d.parameters.length) = some 2 := by decide +kernel
theorem hdW_X8_burn : yX8_burn.cls = RX8 ∧ yX8_burn.cls ≠ "java/lang/invoke/MethodHandle" ∧ yX8_burn.cls ≠ "java/lang/invoke/VarHandle" ∧ (parseMethodDescriptor yX8_burn.desc).map (fun d => d.parameters.length) = some 2 := by decide +kernel
theorem hdW_X9_burn : yX9_burn.cls = RX9 ∧ yX9_burn.cls ≠ "java/lang/invoke/MethodHandle" ∧ yX9_burn.cls ≠ "java/lang/invoke/VarHandle" ∧ (parseMethodDescriptor yX9_burn.desc).map (fun d => d.parameters.length) = some 2 := by decide +kernel
theorem hdW_X8_hours : yX8_hours.cls = RX8 ∧ yX8_hours.cls ≠ "java/lang/invoke/MethodHandle" ∧ yX8_hours.cls ≠ "java/lang/invoke/VarHandle" ∧ (parseMethodDescriptor yX8_hours.desc).map (fun d => d.parameters.length) = some 1 := by decide +kernel
theorem hdW_X9_hours : yX9_hours.cls = RX9 ∧ yX9_hours.cls ≠ "java/lang/invoke/MethodHandle" ∧ yX9_hours.cls ≠ "java/lang/invoke/VarHandle" ∧ (parseMethodDescriptor yX9_hours.desc).map (fun d => d.parameters.length) = some 1 := by decide +kernel
theorem hdW_X8_now : yX8_now.cls = RX8 ∧ yX8_now.cls ≠ "java/lang/invoke/MethodHandle" ∧ yX8_now.cls ≠ "java/lang/invoke/VarHandle" ∧ (parseMethodDescriptor yX8_now.desc).map (fun d => d.parameters.length) = some 1 := by decide +kernel
theorem hdW_X9_now : yX9_now.cls = RX9 ∧ yX9_now.cls ≠ "java/lang/invoke/MethodHandle" ∧ yX9_now.cls ≠ "java/lang/invoke/VarHandle" ∧ (parseMethodDescriptor yX9_now.desc).map (fun d => d.parameters.length) = some 1 := by decide +kernel
theorem hdW_X8_warm : yX8_warm.cls = RX8 ∧ yX8_warm.cls ≠ "java/lang/invoke/MethodHandle" ∧ yX8_warm.cls ≠ "java/lang/invoke/VarHandle" ∧ (parseMethodDescriptor yX8_warm.desc).map (fun d => d.parameters.length) = some 2 := by decide +kernel
theorem hdW_X9_warm : yX9_warm.cls = RX9 ∧ yX9_warm.cls ≠ "java/lang/invoke/MethodHandle" ∧ yX9_warm.cls ≠ "java/lang/invoke/VarHandle" ∧ (parseMethodDescriptor yX9_warm.desc).map (fun d => d.parameters.length) = some 2 := by decide +kernel
theorem hdW_X8_when : yX8_when.cls = RX8 ∧ yX8_when.cls ≠ "java/lang/invoke/MethodHandle" ∧ yX8_when.cls ≠ "java/lang/invoke/VarHandle" ∧ (parseMethodDescriptor yX8_when.desc).map (fun d => d.parameters.length) = some 2 := by decide +kernel
theorem hdW_X9_when : yX9_when.cls = RX9 ∧ yX9_when.cls ≠ "java/lang/invoke/MethodHandle" ∧ yX9_when.cls ≠ "java/lang/invoke/VarHandle" ∧ (parseMethodDescriptor yX9_when.desc).map (fun d => d.parameters.length) = some 2 := by decide +kernel
theorem hdW_X8_takesIn : yX8_takesIn.cls = RX8 ∧ yX8_takesIn.cls ≠ "java/lang/invoke/MethodHandle" ∧ yX8_takesIn.cls ≠ "java/lang/invoke/VarHandle" ∧ (parseMethodDescriptor yX8_takesIn.desc).map (fun d => d.parameters.length) = some 3 := by decide +kernel
theorem hdW_X9_takesIn : yX9_takesIn.cls = RX9 ∧ yX9_takesIn.cls ≠ "java/lang/invoke/MethodHandle" ∧ yX9_takesIn.cls ≠ "java/lang/invoke/VarHandle" ∧ (parseMethodDescriptor yX9_takesIn.desc).map (fun d => d.parameters.length) = some 3 := by decide +kernel
theorem hdW_X8_burns : yX8_burns.cls = RX8 ∧ yX8_burns.cls ≠ "java/lang/invoke/MethodHandle" ∧ yX8_burns.cls ≠ "java/lang/invoke/VarHandle" ∧ (parseMethodDescriptor yX8_burns.desc).map (fun d => d.parameters.length) = some 3 := by decide +kernel
theorem hdW_X9_burns : yX9_burns.cls = RX9 ∧ yX9_burns.cls ≠ "java/lang/invoke/MethodHandle" ∧ yX9_burns.cls ≠ "java/lang/invoke/VarHandle" ∧ (parseMethodDescriptor yX9_burns.desc).map (fun d => d.parameters.length) = some 3 := by decide +kernel
theorem hdW_X8_fewest : yX8_fewest.cls = RX8 ∧ yX8_fewest.cls ≠ "java/lang/invoke/MethodHandle" ∧ yX8_fewest.cls ≠ "java/lang/invoke/VarHandle" ∧ (parseMethodDescriptor yX8_fewest.desc).map (fun d => d.parameters.length) = some 2 := by decide +kernel
theorem hdW_X9_fewest : yX9_fewest.cls = RX9 ∧ yX9_fewest.cls ≠ "java/lang/invoke/MethodHandle" ∧ yX9_fewest.cls ≠ "java/lang/invoke/VarHandle" ∧ (parseMethodDescriptor yX9_fewest.desc).map (fun d => d.parameters.length) = some 2 := by decide +kernel
theorem hdW_X8_ith : yX8_ith.cls = RX8 ∧ yX8_ith.cls ≠ "java/lang/invoke/MethodHandle" ∧ yX8_ith.cls ≠ "java/lang/invoke/VarHandle" ∧ (parseMethodDescriptor yX8_ith.desc).map (fun d => d.parameters.length) = some 3 := by decide +kernel
theorem hdW_X9_ith : yX9_ith.cls = RX9 ∧ yX9_ith.cls ≠ "java/lang/invoke/MethodHandle" ∧ yX9_ith.cls ≠ "java/lang/invoke/VarHandle" ∧ (parseMethodDescriptor yX9_ith.desc).map (fun d => d.parameters.length) = some 3 := by decide +kernel
theorem hdW_X8_ways : yX8_ways.cls = RX8 ∧ yX8_ways.cls ≠ "java/lang/invoke/MethodHandle" ∧ yX8_ways.cls ≠ "java/lang/invoke/VarHandle" ∧ (parseMethodDescriptor yX8_ways.desc).map (fun d => d.parameters.length) = some 3 := by decide +kernel
theorem hdW_X9_ways : yX9_ways.cls = RX9 ∧ yX9_ways.cls ≠ "java/lang/invoke/MethodHandle" ∧ yX9_ways.cls ≠ "java/lang/invoke/VarHandle" ∧ (parseMethodDescriptor yX9_ways.desc).map (fun d => d.parameters.length) = some 3 := by decide +kernel
theorem hdW_X8_most : yX8_most.cls = RX8 ∧ yX8_most.cls ≠ "java/lang/invoke/MethodHandle" ∧ yX8_most.cls ≠ "java/lang/invoke/VarHandle" ∧ (parseMethodDescriptor yX8_most.desc).map (fun d => d.parameters.length) = some 2 := by decide +kernel
theorem hdW_X9_most : yX9_most.cls = RX9 ∧ yX9_most.cls ≠ "java/lang/invoke/MethodHandle" ∧ yX9_most.cls ≠ "java/lang/invoke/VarHandle" ∧ (parseMethodDescriptor yX9_most.desc).map (fun d => d.parameters.length) = some 2 := by decide +kernel
theorem hdW_X8_best : yX8_best.cls = RX8 ∧ yX8_best.cls ≠ "java/lang/invoke/MethodHandle" ∧ yX8_best.cls ≠ "java/lang/invoke/VarHandle" ∧ (parseMethodDescriptor yX8_best.desc).map (fun d => d.parameters.length) = some 1 := by decide +kernel
theorem hdW_X9_best : yX9_best.cls = RX9 ∧ yX9_best.cls ≠ "java/lang/invoke/MethodHandle" ∧ yX9_best.cls ≠ "java/lang/invoke/VarHandle" ∧ (parseMethodDescriptor yX9_best.desc).map (fun d => d.parameters.length) = some 1 := by decide +kernel
theorem hdW_X8_kind : yX8_kind.cls = RX8 ∧ yX8_kind.cls ≠ "java/lang/invoke/MethodHandle" ∧ yX8_kind.cls ≠ "java/lang/invoke/VarHandle" ∧ (parseMethodDescriptor yX8_kind.desc).map (fun d => d.parameters.length) = some 3 := by decide +kernel
theorem hdW_X9_kind : yX9_kind.cls = RX9 ∧ yX9_kind.cls ≠ "java/lang/invoke/MethodHandle" ∧ yX9_kind.cls ≠ "java/lang/invoke/VarHandle" ∧ (parseMethodDescriptor yX9_kind.desc).map (fun d => d.parameters.length) = some 3 := by decide +kernel
theorem hdW_X8_fires : yX8_fires.cls = RX8 ∧ yX8_fires.cls ≠ "java/lang/invoke/MethodHandle" ∧ yX8_fires.cls ≠ "java/lang/invoke/VarHandle" ∧ (parseMethodDescriptor yX8_fires.desc).map (fun d => d.parameters.length) = some 2 := by decide +kernel
theorem hdW_X9_fires : yX9_fires.cls = RX9 ∧ yX9_fires.cls ≠ "java/lang/invoke/MethodHandle" ∧ yX9_fires.cls ≠ "java/lang/invoke/VarHandle" ∧ (parseMethodDescriptor yX9_fires.desc).map (fun d => d.parameters.length) = some 2 := by decide +kernel
theorem hdW_X8_enough : yX8_enough.cls = RX8 ∧ yX8_enough.cls ≠ "java/lang/invoke/MethodHandle" ∧ yX8_enough.cls ≠ "java/lang/invoke/VarHandle" ∧ (parseMethodDescriptor yX8_enough.desc).map (fun d => d.parameters.length) = some 1 := by decide +kernel
theorem hdW_X9_enough : yX9_enough.cls = RX9 ∧ yX9_enough.cls ≠ "java/lang/invoke/MethodHandle" ∧ yX9_enough.cls ≠ "java/lang/invoke/VarHandle" ∧ (parseMethodDescriptor yX9_enough.desc).map (fun d => d.parameters.length) = some 1 := by decide +kernel
theorem hdW_X8_feed : yX8_feed.cls = RX8 ∧ yX8_feed.cls ≠ "java/lang/invoke/MethodHandle" ∧ yX8_feed.cls ≠ "java/lang/invoke/VarHandle" ∧ (parseMethodDescriptor yX8_feed.desc).map (fun d => d.parameters.length) = some 2 := by decide +kernel
theorem hdW_X9_feed : yX9_feed.cls = RX9 ∧ yX9_feed.cls ≠ "java/lang/invoke/MethodHandle" ∧ yX9_feed.cls ≠ "java/lang/invoke/VarHandle" ∧ (parseMethodDescriptor yX9_feed.desc).map (fun d => d.parameters.length) = some 2 := by decide +kernel
theorem hdW_X8_wipe : yX8_wipe.cls = RX8 ∧ yX8_wipe.cls ≠ "java/lang/invoke/MethodHandle" ∧ yX8_wipe.cls ≠ "java/lang/invoke/VarHandle" ∧ (parseMethodDescriptor yX8_wipe.desc).map (fun d => d.parameters.length) = some 0 := by decide +kernel
theorem hdW_X9_wipe : yX9_wipe.cls = RX9 ∧ yX9_wipe.cls ≠ "java/lang/invoke/MethodHandle" ∧ yX9_wipe.cls ≠ "java/lang/invoke/VarHandle" ∧ (parseMethodDescriptor yX9_wipe.desc).map (fun d => d.parameters.length) = some 0 := by decide +kernel
theorem hdW_X8_text : yX8_text.cls = RX8 ∧ yX8_text.cls ≠ "java/lang/invoke/MethodHandle" ∧ yX8_text.cls ≠ "java/lang/invoke/VarHandle" ∧ (parseMethodDescriptor yX8_text.desc).map (fun d => d.parameters.length) = some 0 := by decide +kernel
theorem hdW_X9_text : yX9_text.cls = RX9 ∧ yX9_text.cls ≠ "java/lang/invoke/MethodHandle" ∧ yX9_text.cls ≠ "java/lang/invoke/VarHandle" ∧ (parseMethodDescriptor yX9_text.desc).map (fun d => d.parameters.length) = some 0 := by decide +kernel
theorem hdW_X8_sheet : yX8_sheet.cls = RX8 ∧ yX8_sheet.cls ≠ "java/lang/invoke/MethodHandle" ∧ yX8_sheet.cls ≠ "java/lang/invoke/VarHandle" ∧ (parseMethodDescriptor yX8_sheet.desc).map (fun d => d.parameters.length) = some 3 := by decide +kernel
theorem hdW_X9_sheet : yX9_sheet.cls = RX9 ∧ yX9_sheet.cls ≠ "java/lang/invoke/MethodHandle" ∧ yX9_sheet.cls ≠ "java/lang/invoke/VarHandle" ∧ (parseMethodDescriptor yX9_sheet.desc).map (fun d => d.parameters.length) = some 3 := by decide +kernel
theorem hdW_X8_write : yX8_write.cls = RX8 ∧ yX8_write.cls ≠ "java/lang/invoke/MethodHandle" ∧ yX8_write.cls ≠ "java/lang/invoke/VarHandle" ∧ (parseMethodDescriptor yX8_write.desc).map (fun d => d.parameters.length) = some 3 := by decide +kernel
theorem hdW_X9_write : yX9_write.cls = RX9 ∧ yX9_write.cls ≠ "java/lang/invoke/MethodHandle" ∧ yX9_write.cls ≠ "java/lang/invoke/VarHandle" ∧ (parseMethodDescriptor yX9_write.desc).map (fun d => d.parameters.length) = some 3 := by decide +kernel
theorem hdW_X8_copy : yX8_copy.cls = RX8 ∧ yX8_copy.cls ≠ "java/lang/invoke/MethodHandle" ∧ yX8_copy.cls ≠ "java/lang/invoke/VarHandle" ∧ (parseMethodDescriptor yX8_copy.desc).map (fun d => d.parameters.length) = some 5 := by decide +kernel
theorem hdW_X9_copy : yX9_copy.cls = RX9 ∧ yX9_copy.cls ≠ "java/lang/invoke/MethodHandle" ∧ yX9_copy.cls ≠ "java/lang/invoke/VarHandle" ∧ (parseMethodDescriptor yX9_copy.desc).map (fun d => d.parameters.length) = some 5 := by decide +kernel
theorem hdW_X8_lays : yX8_lays.cls = RX8 ∧ yX8_lays.cls ≠ "java/lang/invoke/MethodHandle" ∧ yX8_lays.cls ≠ "java/lang/invoke/VarHandle" ∧ (parseMethodDescriptor yX8_lays.desc).map (fun d => d.parameters.length) = some 2 := by decide +kernel
theorem hdW_X9_lays : yX9_lays.cls = RX9 ∧ yX9_lays.cls ≠ "java/lang/invoke/MethodHandle" ∧ yX9_lays.cls ≠ "java/lang/invoke/VarHandle" ∧ (parseMethodDescriptor yX9_lays.desc).map (fun d => d.parameters.length) = some 2 := by decide +kernel
theorem hdW_X8_show : yX8_show.cls = RX8 ∧ yX8_show.cls ≠ "java/lang/invoke/MethodHandle" ∧ yX8_show.cls ≠ "java/lang/invoke/VarHandle" ∧ (parseMethodDescriptor yX8_show.desc).map (fun d => d.parameters.length) = some 2 := by decide +kernel
theorem hdW_X9_show : yX9_show.cls = RX9 ∧ yX9_show.cls ≠ "java/lang/invoke/MethodHandle" ∧ yX9_show.cls ≠ "java/lang/invoke/VarHandle" ∧ (parseMethodDescriptor yX9_show.desc).map (fun d => d.parameters.length) = some 2 := by decide +kernel
theorem hdW_X8_read : yX8_read.cls = RX8 ∧ yX8_read.cls ≠ "java/lang/invoke/MethodHandle" ∧ yX8_read.cls ≠ "java/lang/invoke/VarHandle" ∧ (parseMethodDescriptor yX8_read.desc).map (fun d => d.parameters.length) = some 2 := by decide +kernel
theorem hdW_X9_read : yX9_read.cls = RX9 ∧ yX9_read.cls ≠ "java/lang/invoke/MethodHandle" ∧ yX9_read.cls ≠ "java/lang/invoke/VarHandle" ∧ (parseMethodDescriptor yX9_read.desc).map (fun d => d.parameters.length) = some 2 := by decide +kernel
theorem hdW_X8_image : yX8_image.cls = RX8 ∧ yX8_image.cls ≠ "java/lang/invoke/MethodHandle" ∧ yX8_image.cls ≠ "java/lang/invoke/VarHandle" ∧ (parseMethodDescriptor yX8_image.desc).map (fun d => d.parameters.length) = some 0 := by decide +kernel
theorem hdW_X9_image : yX9_image.cls = RX9 ∧ yX9_image.cls ≠ "java/lang/invoke/MethodHandle" ∧ yX9_image.cls ≠ "java/lang/invoke/VarHandle" ∧ (parseMethodDescriptor yX9_image.desc).map (fun d => d.parameters.length) = some 0 := by decide +kernel
theorem hdW_X8_undo : yX8_undo.cls = RX8 ∧ yX8_undo.cls ≠ "java/lang/invoke/MethodHandle" ∧ yX8_undo.cls ≠ "java/lang/invoke/VarHandle" ∧ (parseMethodDescriptor yX8_undo.desc).map (fun d => d.parameters.length) = some 0 := by decide +kernel
theorem hdW_X9_undo : yX9_undo.cls = RX9 ∧ yX9_undo.cls ≠ "java/lang/invoke/MethodHandle" ∧ yX9_undo.cls ≠ "java/lang/invoke/VarHandle" ∧ (parseMethodDescriptor yX9_undo.desc).map (fun d => d.parameters.length) = some 0 := by decide +kernel
theorem hdW_X8_tear : yX8_tear.cls = RX8 ∧ yX8_tear.cls ≠ "java/lang/invoke/MethodHandle" ∧ yX8_tear.cls ≠ "java/lang/invoke/VarHandle" ∧ (parseMethodDescriptor yX8_tear.desc).map (fun d => d.parameters.length) = some 0 := by decide +kernel
theorem hdW_X9_tear : yX9_tear.cls = RX9 ∧ yX9_tear.cls ≠ "java/lang/invoke/MethodHandle" ∧ yX9_tear.cls ≠ "java/lang/invoke/VarHandle" ∧ (parseMethodDescriptor yX9_tear.desc).map (fun d => d.parameters.length) = some 0 := by decide +kernel
theorem hdW_X8_count : yX8_count.cls = RX8 ∧ yX8_count.cls ≠ "java/lang/invoke/MethodHandle" ∧ yX8_count.cls ≠ "java/lang/invoke/VarHandle" ∧ (parseMethodDescriptor yX8_count.desc).map (fun d => d.parameters.length) = some 1 := by decide +kernel
theorem hdW_X9_count : yX9_count.cls = RX9 ∧ yX9_count.cls ≠ "java/lang/invoke/MethodHandle" ∧ yX9_count.cls ≠ "java/lang/invoke/VarHandle" ∧ (parseMethodDescriptor yX9_count.desc).map (fun d => d.parameters.length) = some 1 := by decide +kernel
theorem hdW_X8_status : yX8_status.cls = RX8 ∧ yX8_status.cls ≠ "java/lang/invoke/MethodHandle" ∧ yX8_status.cls ≠ "java/lang/invoke/VarHandle" ∧ (parseMethodDescriptor yX8_status.desc).map (fun d => d.parameters.length) = some 1 := by decide +kernel
theorem hdW_X9_status : yX9_status.cls = RX9 ∧ yX9_status.cls ≠ "java/lang/invoke/MethodHandle" ∧ yX9_status.cls ≠ "java/lang/invoke/VarHandle" ∧ (parseMethodDescriptor yX9_status.desc).map (fun d => d.parameters.length) = some 1 := by decide +kernel
theorem zw_k0 : zz_sh 0 = 8 := by decide +kernel
theorem zw_k129 : zz_sh 129 = 9 := by decide +kernel
set_option maxRecDepth 100000 in
set_option maxHeartbeats 4000000 in
theorem zw_case_vatOf {p : Program} {l : Launch} {e : Env} {s : State} {m : MethodId} {below : List Frame} {meth : Method} {c : Code} {b L : Nat} {xs : Nat → Int32} {E : zz_E} (C : zz_C E RL code 4 wsL_law p s m #[Value.ref b] meth c) (hX : va_X b L xs s s.heap) (hbl : b < s.heap.size) (hE : E.1 = s.heap.size) (hL : L ≤ 3072) {Inv : zz_M → Prop} {M : zz_M} (hop : (∀ (x1 : Int32) (x2 : Int32), zw_eq Inv (f_X8_vatOf 0 x1 x2) (f_X9_vatOf 129 x1 x2) M)) {i : Nat} {x3 : Int32} (hx3 : x3 = nI i) (hi : i + 6 ≤ L) {ls : Array Slot} (hl : lv_has ls 4 [(0, .ref b), (1, .ref (E.1 + 0)), (2, .ref (E.1 + 129)), (3, .int x3)]) (kk : ∀ M2 : zz_M, Inv M2 → zw_Z E p l e s m b below meth c 141 4382 M2 (F0 m 1499 ls [])) : zw_Z E p l e s m b below meth c 141 4382 M (F0 m 208 ls []) := by
  obtain ⟨r, M1, M2, h1, h2, h3⟩ := hop (xs (i + 1)) (xs (i + 2))
  refine zw_step (fun H locs k => lv_aload_n C.1.1 C.1.2.1 dL_law_208 rfl (lv_at hl 1 rfl) k) ?_
  refine zw_arg (k := 1) (p0 := 0) (p3 := 3) C hX hbl hE hl rfl rfl hx3 (by omega) (by omega) (by decide) dL_law_209 dL_law_210 dL_law_211 dL_law_212 dL_law_213 ?_
  refine zw_arg (k := 2) (p0 := 0) (p3 := 3) C hX hbl hE hl rfl rfl hx3 (by omega) (by omega) (by decide) dL_law_214 dL_law_215 dL_law_216 dL_law_217 dL_law_218 ?_
  refine zw_callVi (As := [.int (xs (i + 1)), .int (xs (i + 2))]) (rest := []) C (m_X8_vatOf l E 0 (xs (i + 1)) (xs (i + 2)) zw_k0 M) h1 (cwV 2 C.1.2.2.2.2 gL_law_X8_vatOf rfl rfl rfl hdW_X8_vatOf ⟨Nat.le_of_ble_eq_true rfl, Nat.le_of_ble_eq_true rfl⟩) (zz_lt zw_k0 (by decide)) (zz_c8 zw_k0) rfl rfl hl.1 rfl (Nat.le_of_ble_eq_true rfl) dL_law_219 (Nat.le_of_ble_eq_true rfl) (Nat.le_of_ble_eq_true rfl) ?_
  refine zw_step (fun H locs k => lv_aload_n C.1.1 C.1.2.1 dL_law_222 rfl (lv_at hl 2 rfl) k) ?_
  refine zw_arg (k := 1) (p0 := 0) (p3 := 3) C hX hbl hE hl rfl rfl hx3 (by omega) (by omega) (by decide) dL_law_223 dL_law_224 dL_law_225 dL_law_226 dL_law_227 ?_
  refine zw_arg (k := 2) (p0 := 0) (p3 := 3) C hX hbl hE hl rfl rfl hx3 (by omega) (by omega) (by decide) dL_law_228 dL_law_229 dL_law_230 dL_law_231 dL_law_232 ?_
  refine zw_callVi (As := [.int (xs (i + 1)), .int (xs (i + 2))]) (rest := [.int r]) C (m_X9_vatOf l E 129 (xs (i + 1)) (xs (i + 2)) zw_k129 M1) h2 (cwV 2 C.1.2.2.2.2 gL_law_X9_vatOf rfl rfl rfl hdW_X9_vatOf ⟨Nat.le_of_ble_eq_true rfl, Nat.le_of_ble_eq_true rfl⟩) (zz_lt zw_k129 (by decide)) (zz_c9 zw_k129) rfl rfl hl.1 rfl (Nat.le_of_ble_eq_true rfl) dL_law_233 (Nat.le_of_ble_eq_true rfl) (Nat.le_of_ble_eq_true rfl) ?_
  refine zw_step (fun H locs k => lv_icmp_eq (tgt := 1499) C.1.1 C.1.2.1 dL_law_236 (by decide) (fun _ => k) (fun h => absurd rfl h)) ?_
  exact kk M2 h3
set_option maxRecDepth 100000 in
set_option maxHeartbeats 4000000 in
theorem zw_case_vat {p : Program} {l : Launch} {e : Env} {s : State} {m : MethodId} {below : List Frame} {meth : Method} {c : Code} {b L : Nat} {xs : Nat → Int32} {E : zz_E} (C : zz_C E RL code 4 wsL_law p s m #[Value.ref b] meth c) (hX : va_X b L xs s s.heap) (hbl : b < s.heap.size) (hE : E.1 = s.heap.size) (hL : L ≤ 3072) {Inv : zz_M → Prop} {M : zz_M} (hop : (∀ (x1 : Int32) (x2 : Int32) (x3 : Int32), zw_eq Inv (f_X8_vat 0 x1 x2 x3) (f_X9_vat 129 x1 x2 x3) M)) {i : Nat} {x3 : Int32} (hx3 : x3 = nI i) (hi : i + 6 ≤ L) {ls : Array Slot} (hl : lv_has ls 4 [(0, .ref b), (1, .ref (E.1 + 0)), (2, .ref (E.1 + 129)), (3, .int x3)]) (kk : ∀ M2 : zz_M, Inv M2 → zw_Z E p l e s m b below meth c 141 4382 M2 (F0 m 1499 ls [])) : zw_Z E p l e s m b below meth c 141 4382 M (F0 m 241 ls []) := by
  obtain ⟨r, M1, M2, h1, h2, h3⟩ := hop (xs (i + 1)) (xs (i + 2)) (xs (i + 3))
  refine zw_step (fun H locs k => lv_aload_n C.1.1 C.1.2.1 dL_law_241 rfl (lv_at hl 1 rfl) k) ?_
  refine zw_arg (k := 1) (p0 := 0) (p3 := 3) C hX hbl hE hl rfl rfl hx3 (by omega) (by omega) (by decide) dL_law_242 dL_law_243 dL_law_244 dL_law_245 dL_law_246 ?_
  refine zw_arg (k := 2) (p0 := 0) (p3 := 3) C hX hbl hE hl rfl rfl hx3 (by omega) (by omega) (by decide) dL_law_247 dL_law_248 dL_law_249 dL_law_250 dL_law_251 ?_
  refine zw_arg (k := 3) (p0 := 0) (p3 := 3) C hX hbl hE hl rfl rfl hx3 (by omega) (by omega) (by decide) dL_law_252 dL_law_253 dL_law_254 dL_law_255 dL_law_256 ?_
  refine zw_callVi (As := [.int (xs (i + 1)), .int (xs (i + 2)), .int (xs (i + 3))]) (rest := []) C (m_X8_vat l E 0 (xs (i + 1)) (xs (i + 2)) (xs (i + 3)) zw_k0 M) h1 (cwV 3 C.1.2.2.2.2 gL_law_X8_vat rfl rfl rfl hdW_X8_vat ⟨Nat.le_of_ble_eq_true rfl, Nat.le_of_ble_eq_true rfl⟩) (zz_lt zw_k0 (by decide)) (zz_c8 zw_k0) rfl rfl hl.1 rfl (Nat.le_of_ble_eq_true rfl) dL_law_257 (Nat.le_of_ble_eq_true rfl) (Nat.le_of_ble_eq_true rfl) ?_
  refine zw_step (fun H locs k => lv_aload_n C.1.1 C.1.2.1 dL_law_260 rfl (lv_at hl 2 rfl) k) ?_
  refine zw_arg (k := 1) (p0 := 0) (p3 := 3) C hX hbl hE hl rfl rfl hx3 (by omega) (by omega) (by decide) dL_law_261 dL_law_262 dL_law_263 dL_law_264 dL_law_265 ?_
  refine zw_arg (k := 2) (p0 := 0) (p3 := 3) C hX hbl hE hl rfl rfl hx3 (by omega) (by omega) (by decide) dL_law_266 dL_law_267 dL_law_268 dL_law_269 dL_law_270 ?_
  refine zw_arg (k := 3) (p0 := 0) (p3 := 3) C hX hbl hE hl rfl rfl hx3 (by omega) (by omega) (by decide) dL_law_271 dL_law_272 dL_law_273 dL_law_274 dL_law_275 ?_
  refine zw_callVi (As := [.int (xs (i + 1)), .int (xs (i + 2)), .int (xs (i + 3))]) (rest := [.int r]) C (m_X9_vat l E 129 (xs (i + 1)) (xs (i + 2)) (xs (i + 3)) zw_k129 M1) h2 (cwV 3 C.1.2.2.2.2 gL_law_X9_vat rfl rfl rfl hdW_X9_vat ⟨Nat.le_of_ble_eq_true rfl, Nat.le_of_ble_eq_true rfl⟩) (zz_lt zw_k129 (by decide)) (zz_c9 zw_k129) rfl rfl hl.1 rfl (Nat.le_of_ble_eq_true rfl) dL_law_276 (Nat.le_of_ble_eq_true rfl) (Nat.le_of_ble_eq_true rfl) ?_
  refine zw_step (fun H locs k => lv_icmp_eq (tgt := 1499) C.1.1 C.1.2.1 dL_law_279 (by decide) (fun _ => k) (fun h => absurd rfl h)) ?_
  exact kk M2 h3
set_option maxRecDepth 100000 in
set_option maxHeartbeats 4000000 in
theorem zw_case_let {p : Program} {l : Launch} {e : Env} {s : State} {m : MethodId} {below : List Frame} {meth : Method} {c : Code} {b L : Nat} {xs : Nat → Int32} {E : zz_E} (C : zz_C E RL code 4 wsL_law p s m #[Value.ref b] meth c) (hX : va_X b L xs s s.heap) (hbl : b < s.heap.size) (hE : E.1 = s.heap.size) (hL : L ≤ 3072) {Inv : zz_M → Prop} {M : zz_M} (hop : (∀ (x1 : Int32) (x2 : Int32), zw_eq Inv (f_X8_let 0 x1 x2) (f_X9_let 129 x1 x2) M)) {i : Nat} {x3 : Int32} (hx3 : x3 = nI i) (hi : i + 6 ≤ L) {ls : Array Slot} (hl : lv_has ls 4 [(0, .ref b), (1, .ref (E.1 + 0)), (2, .ref (E.1 + 129)), (3, .int x3)]) (kk : ∀ M2 : zz_M, Inv M2 → zw_Z E p l e s m b below meth c 141 4382 M2 (F0 m 1499 ls [])) : zw_Z E p l e s m b below meth c 141 4382 M (F0 m 284 ls []) := by
  obtain ⟨r, M1, M2, h1, h2, h3⟩ := hop (xs (i + 1)) (xs (i + 2))
  refine zw_step (fun H locs k => lv_aload_n C.1.1 C.1.2.1 dL_law_284 rfl (lv_at hl 1 rfl) k) ?_
  refine zw_arg (k := 1) (p0 := 0) (p3 := 3) C hX hbl hE hl rfl rfl hx3 (by omega) (by omega) (by decide) dL_law_285 dL_law_286 dL_law_287 dL_law_288 dL_law_289 ?_
  refine zw_arg (k := 2) (p0 := 0) (p3 := 3) C hX hbl hE hl rfl rfl hx3 (by omega) (by omega) (by decide) dL_law_290 dL_law_291 dL_law_292 dL_law_293 dL_law_294 ?_
  refine zw_callVi (As := [.int (xs (i + 1)), .int (xs (i + 2))]) (rest := []) C (m_X8_let l E 0 (xs (i + 1)) (xs (i + 2)) zw_k0 M) h1 (cwV 2 C.1.2.2.2.2 gL_law_X8_let rfl rfl rfl hdW_X8_let ⟨Nat.le_of_ble_eq_true rfl, Nat.le_of_ble_eq_true rfl⟩) (zz_lt zw_k0 (by decide)) (zz_c8 zw_k0) rfl rfl hl.1 rfl (Nat.le_of_ble_eq_true rfl) dL_law_295 (Nat.le_of_ble_eq_true rfl) (Nat.le_of_ble_eq_true rfl) ?_
  refine zw_step (fun H locs k => lv_aload_n C.1.1 C.1.2.1 dL_law_298 rfl (lv_at hl 2 rfl) k) ?_
  refine zw_arg (k := 1) (p0 := 0) (p3 := 3) C hX hbl hE hl rfl rfl hx3 (by omega) (by omega) (by decide) dL_law_299 dL_law_300 dL_law_301 dL_law_302 dL_law_303 ?_
  refine zw_arg (k := 2) (p0 := 0) (p3 := 3) C hX hbl hE hl rfl rfl hx3 (by omega) (by omega) (by decide) dL_law_304 dL_law_305 dL_law_306 dL_law_307 dL_law_308 ?_
  refine zw_callVi (As := [.int (xs (i + 1)), .int (xs (i + 2))]) (rest := [.int r]) C (m_X9_let l E 129 (xs (i + 1)) (xs (i + 2)) zw_k129 M1) h2 (cwV 2 C.1.2.2.2.2 gL_law_X9_let rfl rfl rfl hdW_X9_let ⟨Nat.le_of_ble_eq_true rfl, Nat.le_of_ble_eq_true rfl⟩) (zz_lt zw_k129 (by decide)) (zz_c9 zw_k129) rfl rfl hl.1 rfl (Nat.le_of_ble_eq_true rfl) dL_law_309 (Nat.le_of_ble_eq_true rfl) (Nat.le_of_ble_eq_true rfl) ?_
  refine zw_step (fun H locs k => lv_icmp_eq (tgt := 1499) C.1.1 C.1.2.1 dL_law_312 (by decide) (fun _ => k) (fun h => absurd rfl h)) ?_
  exact kk M2 h3
set_option maxRecDepth 100000 in
set_option maxHeartbeats 4000000 in
theorem zw_case_candle {p : Program} {l : Launch} {e : Env} {s : State} {m : MethodId} {below : List Frame} {meth : Method} {c : Code} {b L : Nat} {xs : Nat → Int32} {E : zz_E} (C : zz_C E RL code 4 wsL_law p s m #[Value.ref b] meth c) (hX : va_X b L xs s s.heap) (hbl : b < s.heap.size) (hE : E.1 = s.heap.size) (hL : L ≤ 3072) {Inv : zz_M → Prop} {M : zz_M} (hop : (∀ (x1 : Int32), zw_eq Inv (f_X8_candle 0 x1) (f_X9_candle 129 x1) M)) {i : Nat} {x3 : Int32} (hx3 : x3 = nI i) (hi : i + 6 ≤ L) {ls : Array Slot} (hl : lv_has ls 4 [(0, .ref b), (1, .ref (E.1 + 0)), (2, .ref (E.1 + 129)), (3, .int x3)]) (kk : ∀ M2 : zz_M, Inv M2 → zw_Z E p l e s m b below meth c 141 4382 M2 (F0 m 1499 ls [])) : zw_Z E p l e s m b below meth c 141 4382 M (F0 m 317 ls []) := by
  obtain ⟨r, M1, M2, h1, h2, h3⟩ := hop (xs (i + 1))
  refine zw_step (fun H locs k => lv_aload_n C.1.1 C.1.2.1 dL_law_317 rfl (lv_at hl 1 rfl) k) ?_
  refine zw_arg (k := 1) (p0 := 0) (p3 := 3) C hX hbl hE hl rfl rfl hx3 (by omega) (by omega) (by decide) dL_law_318 dL_law_319 dL_law_320 dL_law_321 dL_law_322 ?_
  refine zw_callVi (As := [.int (xs (i + 1))]) (rest := []) C (m_X8_candle l E 0 (xs (i + 1)) zw_k0 M) h1 (cwV 1 C.1.2.2.2.2 gL_law_X8_candle rfl rfl rfl hdW_X8_candle ⟨Nat.le_of_ble_eq_true rfl, Nat.le_of_ble_eq_true rfl⟩) (zz_lt zw_k0 (by decide)) (zz_c8 zw_k0) rfl rfl hl.1 rfl (Nat.le_of_ble_eq_true rfl) dL_law_323 (Nat.le_of_ble_eq_true rfl) (Nat.le_of_ble_eq_true rfl) ?_
  refine zw_step (fun H locs k => lv_aload_n C.1.1 C.1.2.1 dL_law_326 rfl (lv_at hl 2 rfl) k) ?_
  refine zw_arg (k := 1) (p0 := 0) (p3 := 3) C hX hbl hE hl rfl rfl hx3 (by omega) (by omega) (by decide) dL_law_327 dL_law_328 dL_law_329 dL_law_330 dL_law_331 ?_
  refine zw_callVi (As := [.int (xs (i + 1))]) (rest := [.int r]) C (m_X9_candle l E 129 (xs (i + 1)) zw_k129 M1) h2 (cwV 1 C.1.2.2.2.2 gL_law_X9_candle rfl rfl rfl hdW_X9_candle ⟨Nat.le_of_ble_eq_true rfl, Nat.le_of_ble_eq_true rfl⟩) (zz_lt zw_k129 (by decide)) (zz_c9 zw_k129) rfl rfl hl.1 rfl (Nat.le_of_ble_eq_true rfl) dL_law_332 (Nat.le_of_ble_eq_true rfl) (Nat.le_of_ble_eq_true rfl) ?_
  refine zw_step (fun H locs k => lv_icmp_eq (tgt := 1499) C.1.1 C.1.2.1 dL_law_335 (by decide) (fun _ => k) (fun h => absurd rfl h)) ?_
  exact kk M2 h3
set_option maxRecDepth 100000 in
set_option maxHeartbeats 4000000 in
theorem zw_case_of {p : Program} {l : Launch} {e : Env} {s : State} {m : MethodId} {below : List Frame} {meth : Method} {c : Code} {b L : Nat} {xs : Nat → Int32} {E : zz_E} (C : zz_C E RL code 4 wsL_law p s m #[Value.ref b] meth c) (hX : va_X b L xs s s.heap) (hbl : b < s.heap.size) (hE : E.1 = s.heap.size) (hL : L ≤ 3072) {Inv : zz_M → Prop} {M : zz_M} (hop : (∀ (x1 : Int32) (x2 : Int32), zw_eq Inv (f_X8_of 0 x1 x2) (f_X9_of 129 x1 x2) M)) {i : Nat} {x3 : Int32} (hx3 : x3 = nI i) (hi : i + 6 ≤ L) {ls : Array Slot} (hl : lv_has ls 4 [(0, .ref b), (1, .ref (E.1 + 0)), (2, .ref (E.1 + 129)), (3, .int x3)]) (kk : ∀ M2 : zz_M, Inv M2 → zw_Z E p l e s m b below meth c 141 4382 M2 (F0 m 1499 ls [])) : zw_Z E p l e s m b below meth c 141 4382 M (F0 m 340 ls []) := by
  obtain ⟨r, M1, M2, h1, h2, h3⟩ := hop (xs (i + 1)) (xs (i + 2))
  refine zw_step (fun H locs k => lv_aload_n C.1.1 C.1.2.1 dL_law_340 rfl (lv_at hl 1 rfl) k) ?_
  refine zw_arg (k := 1) (p0 := 0) (p3 := 3) C hX hbl hE hl rfl rfl hx3 (by omega) (by omega) (by decide) dL_law_341 dL_law_342 dL_law_343 dL_law_344 dL_law_345 ?_
  refine zw_arg (k := 2) (p0 := 0) (p3 := 3) C hX hbl hE hl rfl rfl hx3 (by omega) (by omega) (by decide) dL_law_346 dL_law_347 dL_law_348 dL_law_349 dL_law_350 ?_
  refine zw_callVi (As := [.int (xs (i + 1)), .int (xs (i + 2))]) (rest := []) C (m_X8_of l E 0 (xs (i + 1)) (xs (i + 2)) zw_k0 M) h1 (cwV 2 C.1.2.2.2.2 gL_law_X8_of rfl rfl rfl hdW_X8_of ⟨Nat.le_of_ble_eq_true rfl, Nat.le_of_ble_eq_true rfl⟩) (zz_lt zw_k0 (by decide)) (zz_c8 zw_k0) rfl rfl hl.1 rfl (Nat.le_of_ble_eq_true rfl) dL_law_351 (Nat.le_of_ble_eq_true rfl) (Nat.le_of_ble_eq_true rfl) ?_
  refine zw_step (fun H locs k => lv_aload_n C.1.1 C.1.2.1 dL_law_354 rfl (lv_at hl 2 rfl) k) ?_
  refine zw_arg (k := 1) (p0 := 0) (p3 := 3) C hX hbl hE hl rfl rfl hx3 (by omega) (by omega) (by decide) dL_law_355 dL_law_356 dL_law_357 dL_law_358 dL_law_359 ?_
  refine zw_arg (k := 2) (p0 := 0) (p3 := 3) C hX hbl hE hl rfl rfl hx3 (by omega) (by omega) (by decide) dL_law_360 dL_law_361 dL_law_362 dL_law_363 dL_law_364 ?_
  refine zw_callVi (As := [.int (xs (i + 1)), .int (xs (i + 2))]) (rest := [.int r]) C (m_X9_of l E 129 (xs (i + 1)) (xs (i + 2)) zw_k129 M1) h2 (cwV 2 C.1.2.2.2.2 gL_law_X9_of rfl rfl rfl hdW_X9_of ⟨Nat.le_of_ble_eq_true rfl, Nat.le_of_ble_eq_true rfl⟩) (zz_lt zw_k129 (by decide)) (zz_c9 zw_k129) rfl rfl hl.1 rfl (Nat.le_of_ble_eq_true rfl) dL_law_365 (Nat.le_of_ble_eq_true rfl) (Nat.le_of_ble_eq_true rfl) ?_
  refine zw_step (fun H locs k => lv_icmp_eq (tgt := 1499) C.1.1 C.1.2.1 dL_law_368 (by decide) (fun _ => k) (fun h => absurd rfl h)) ?_
  exact kk M2 h3
set_option maxRecDepth 100000 in
set_option maxHeartbeats 4000000 in
theorem zw_case_layer {p : Program} {l : Launch} {e : Env} {s : State} {m : MethodId} {below : List Frame} {meth : Method} {c : Code} {b L : Nat} {xs : Nat → Int32} {E : zz_E} (C : zz_C E RL code 4 wsL_law p s m #[Value.ref b] meth c) (hX : va_X b L xs s s.heap) (hbl : b < s.heap.size) (hE : E.1 = s.heap.size) (hL : L ≤ 3072) {Inv : zz_M → Prop} {M : zz_M} (hop : (∀ (x1 : Int32) (x2 : Int32), zw_eq Inv (f_X8_layer 0 x1 x2) (f_X9_layer 129 x1 x2) M)) {i : Nat} {x3 : Int32} (hx3 : x3 = nI i) (hi : i + 6 ≤ L) {ls : Array Slot} (hl : lv_has ls 4 [(0, .ref b), (1, .ref (E.1 + 0)), (2, .ref (E.1 + 129)), (3, .int x3)]) (kk : ∀ M2 : zz_M, Inv M2 → zw_Z E p l e s m b below meth c 141 4382 M2 (F0 m 1499 ls [])) : zw_Z E p l e s m b below meth c 141 4382 M (F0 m 373 ls []) := by
  obtain ⟨r, M1, M2, h1, h2, h3⟩ := hop (xs (i + 1)) (xs (i + 2))
  refine zw_step (fun H locs k => lv_aload_n C.1.1 C.1.2.1 dL_law_373 rfl (lv_at hl 1 rfl) k) ?_
  refine zw_arg (k := 1) (p0 := 0) (p3 := 3) C hX hbl hE hl rfl rfl hx3 (by omega) (by omega) (by decide) dL_law_374 dL_law_375 dL_law_376 dL_law_377 dL_law_378 ?_
  refine zw_arg (k := 2) (p0 := 0) (p3 := 3) C hX hbl hE hl rfl rfl hx3 (by omega) (by omega) (by decide) dL_law_379 dL_law_380 dL_law_381 dL_law_382 dL_law_383 ?_
  refine zw_callVi (As := [.int (xs (i + 1)), .int (xs (i + 2))]) (rest := []) C (m_X8_layer l E 0 (xs (i + 1)) (xs (i + 2)) zw_k0 M) h1 (cwV 2 C.1.2.2.2.2 gL_law_X8_layer rfl rfl rfl hdW_X8_layer ⟨Nat.le_of_ble_eq_true rfl, Nat.le_of_ble_eq_true rfl⟩) (zz_lt zw_k0 (by decide)) (zz_c8 zw_k0) rfl rfl hl.1 rfl (Nat.le_of_ble_eq_true rfl) dL_law_384 (Nat.le_of_ble_eq_true rfl) (Nat.le_of_ble_eq_true rfl) ?_
  refine zw_step (fun H locs k => lv_aload_n C.1.1 C.1.2.1 dL_law_387 rfl (lv_at hl 2 rfl) k) ?_
  refine zw_arg (k := 1) (p0 := 0) (p3 := 3) C hX hbl hE hl rfl rfl hx3 (by omega) (by omega) (by decide) dL_law_388 dL_law_389 dL_law_390 dL_law_391 dL_law_392 ?_
  refine zw_arg (k := 2) (p0 := 0) (p3 := 3) C hX hbl hE hl rfl rfl hx3 (by omega) (by omega) (by decide) dL_law_393 dL_law_394 dL_law_395 dL_law_396 dL_law_397 ?_
  refine zw_callVi (As := [.int (xs (i + 1)), .int (xs (i + 2))]) (rest := [.int r]) C (m_X9_layer l E 129 (xs (i + 1)) (xs (i + 2)) zw_k129 M1) h2 (cwV 2 C.1.2.2.2.2 gL_law_X9_layer rfl rfl rfl hdW_X9_layer ⟨Nat.le_of_ble_eq_true rfl, Nat.le_of_ble_eq_true rfl⟩) (zz_lt zw_k129 (by decide)) (zz_c9 zw_k129) rfl rfl hl.1 rfl (Nat.le_of_ble_eq_true rfl) dL_law_398 (Nat.le_of_ble_eq_true rfl) (Nat.le_of_ble_eq_true rfl) ?_
  refine zw_step (fun H locs k => lv_icmp_eq (tgt := 1499) C.1.1 C.1.2.1 dL_law_401 (by decide) (fun _ => k) (fun h => absurd rfl h)) ?_
  exact kk M2 h3
set_option maxRecDepth 100000 in
set_option maxHeartbeats 4000000 in
theorem zw_case_turn {p : Program} {l : Launch} {e : Env} {s : State} {m : MethodId} {below : List Frame} {meth : Method} {c : Code} {b L : Nat} {xs : Nat → Int32} {E : zz_E} (C : zz_C E RL code 4 wsL_law p s m #[Value.ref b] meth c) (hX : va_X b L xs s s.heap) (hbl : b < s.heap.size) (hE : E.1 = s.heap.size) (hL : L ≤ 3072) {Inv : zz_M → Prop} {M : zz_M} (hop : (∀ (x1 : Int32) (x2 : Int32), zw_eq Inv (f_X8_turn 0 x1 x2) (f_X9_turn 129 x1 x2) M)) {i : Nat} {x3 : Int32} (hx3 : x3 = nI i) (hi : i + 6 ≤ L) {ls : Array Slot} (hl : lv_has ls 4 [(0, .ref b), (1, .ref (E.1 + 0)), (2, .ref (E.1 + 129)), (3, .int x3)]) (kk : ∀ M2 : zz_M, Inv M2 → zw_Z E p l e s m b below meth c 141 4382 M2 (F0 m 1499 ls [])) : zw_Z E p l e s m b below meth c 141 4382 M (F0 m 406 ls []) := by
  obtain ⟨r, M1, M2, h1, h2, h3⟩ := hop (xs (i + 1)) (xs (i + 2))
  refine zw_step (fun H locs k => lv_aload_n C.1.1 C.1.2.1 dL_law_406 rfl (lv_at hl 1 rfl) k) ?_
  refine zw_arg (k := 1) (p0 := 0) (p3 := 3) C hX hbl hE hl rfl rfl hx3 (by omega) (by omega) (by decide) dL_law_407 dL_law_408 dL_law_409 dL_law_410 dL_law_411 ?_
  refine zw_arg (k := 2) (p0 := 0) (p3 := 3) C hX hbl hE hl rfl rfl hx3 (by omega) (by omega) (by decide) dL_law_412 dL_law_413 dL_law_414 dL_law_415 dL_law_416 ?_
  refine zw_callVi (As := [.int (xs (i + 1)), .int (xs (i + 2))]) (rest := []) C (m_X8_turn l E 0 (xs (i + 1)) (xs (i + 2)) zw_k0 M) h1 (cwV 2 C.1.2.2.2.2 gL_law_X8_turn rfl rfl rfl hdW_X8_turn ⟨Nat.le_of_ble_eq_true rfl, Nat.le_of_ble_eq_true rfl⟩) (zz_lt zw_k0 (by decide)) (zz_c8 zw_k0) rfl rfl hl.1 rfl (Nat.le_of_ble_eq_true rfl) dL_law_417 (Nat.le_of_ble_eq_true rfl) (Nat.le_of_ble_eq_true rfl) ?_
  refine zw_step (fun H locs k => lv_aload_n C.1.1 C.1.2.1 dL_law_420 rfl (lv_at hl 2 rfl) k) ?_
  refine zw_arg (k := 1) (p0 := 0) (p3 := 3) C hX hbl hE hl rfl rfl hx3 (by omega) (by omega) (by decide) dL_law_421 dL_law_422 dL_law_423 dL_law_424 dL_law_425 ?_
  refine zw_arg (k := 2) (p0 := 0) (p3 := 3) C hX hbl hE hl rfl rfl hx3 (by omega) (by omega) (by decide) dL_law_426 dL_law_427 dL_law_428 dL_law_429 dL_law_430 ?_
  refine zw_callVi (As := [.int (xs (i + 1)), .int (xs (i + 2))]) (rest := [.int r]) C (m_X9_turn l E 129 (xs (i + 1)) (xs (i + 2)) zw_k129 M1) h2 (cwV 2 C.1.2.2.2.2 gL_law_X9_turn rfl rfl rfl hdW_X9_turn ⟨Nat.le_of_ble_eq_true rfl, Nat.le_of_ble_eq_true rfl⟩) (zz_lt zw_k129 (by decide)) (zz_c9 zw_k129) rfl rfl hl.1 rfl (Nat.le_of_ble_eq_true rfl) dL_law_431 (Nat.le_of_ble_eq_true rfl) (Nat.le_of_ble_eq_true rfl) ?_
  refine zw_step (fun H locs k => lv_icmp_eq (tgt := 1499) C.1.1 C.1.2.1 dL_law_434 (by decide) (fun _ => k) (fun h => absurd rfl h)) ?_
  exact kk M2 h3
set_option maxRecDepth 100000 in
set_option maxHeartbeats 4000000 in
theorem zw_case_as {p : Program} {l : Launch} {e : Env} {s : State} {m : MethodId} {below : List Frame} {meth : Method} {c : Code} {b L : Nat} {xs : Nat → Int32} {E : zz_E} (C : zz_C E RL code 4 wsL_law p s m #[Value.ref b] meth c) (hX : va_X b L xs s s.heap) (hbl : b < s.heap.size) (hE : E.1 = s.heap.size) (hL : L ≤ 3072) {Inv : zz_M → Prop} {M : zz_M} (hop : (∀ (x1 : Int32) (x2 : Int32), zw_eq Inv (f_X8_as 0 x1 x2) (f_X9_as 129 x1 x2) M)) {i : Nat} {x3 : Int32} (hx3 : x3 = nI i) (hi : i + 6 ≤ L) {ls : Array Slot} (hl : lv_has ls 4 [(0, .ref b), (1, .ref (E.1 + 0)), (2, .ref (E.1 + 129)), (3, .int x3)]) (kk : ∀ M2 : zz_M, Inv M2 → zw_Z E p l e s m b below meth c 141 4382 M2 (F0 m 1499 ls [])) : zw_Z E p l e s m b below meth c 141 4382 M (F0 m 439 ls []) := by
  obtain ⟨r, M1, M2, h1, h2, h3⟩ := hop (xs (i + 1)) (xs (i + 2))
  refine zw_step (fun H locs k => lv_aload_n C.1.1 C.1.2.1 dL_law_439 rfl (lv_at hl 1 rfl) k) ?_
  refine zw_arg (k := 1) (p0 := 0) (p3 := 3) C hX hbl hE hl rfl rfl hx3 (by omega) (by omega) (by decide) dL_law_440 dL_law_441 dL_law_442 dL_law_443 dL_law_444 ?_
  refine zw_arg (k := 2) (p0 := 0) (p3 := 3) C hX hbl hE hl rfl rfl hx3 (by omega) (by omega) (by decide) dL_law_445 dL_law_446 dL_law_447 dL_law_448 dL_law_449 ?_
  refine zw_callVi (As := [.int (xs (i + 1)), .int (xs (i + 2))]) (rest := []) C (m_X8_as l E 0 (xs (i + 1)) (xs (i + 2)) zw_k0 M) h1 (cwV 2 C.1.2.2.2.2 gL_law_X8_as rfl rfl rfl hdW_X8_as ⟨Nat.le_of_ble_eq_true rfl, Nat.le_of_ble_eq_true rfl⟩) (zz_lt zw_k0 (by decide)) (zz_c8 zw_k0) rfl rfl hl.1 rfl (Nat.le_of_ble_eq_true rfl) dL_law_450 (Nat.le_of_ble_eq_true rfl) (Nat.le_of_ble_eq_true rfl) ?_
  refine zw_step (fun H locs k => lv_aload_n C.1.1 C.1.2.1 dL_law_453 rfl (lv_at hl 2 rfl) k) ?_
  refine zw_arg (k := 1) (p0 := 0) (p3 := 3) C hX hbl hE hl rfl rfl hx3 (by omega) (by omega) (by decide) dL_law_454 dL_law_455 dL_law_456 dL_law_457 dL_law_458 ?_
  refine zw_arg (k := 2) (p0 := 0) (p3 := 3) C hX hbl hE hl rfl rfl hx3 (by omega) (by omega) (by decide) dL_law_459 dL_law_460 dL_law_461 dL_law_462 dL_law_463 ?_
  refine zw_callVi (As := [.int (xs (i + 1)), .int (xs (i + 2))]) (rest := [.int r]) C (m_X9_as l E 129 (xs (i + 1)) (xs (i + 2)) zw_k129 M1) h2 (cwV 2 C.1.2.2.2.2 gL_law_X9_as rfl rfl rfl hdW_X9_as ⟨Nat.le_of_ble_eq_true rfl, Nat.le_of_ble_eq_true rfl⟩) (zz_lt zw_k129 (by decide)) (zz_c9 zw_k129) rfl rfl hl.1 rfl (Nat.le_of_ble_eq_true rfl) dL_law_464 (Nat.le_of_ble_eq_true rfl) (Nat.le_of_ble_eq_true rfl) ?_
  refine zw_step (fun H locs k => lv_icmp_eq (tgt := 1499) C.1.1 C.1.2.1 dL_law_467 (by decide) (fun _ => k) (fun h => absurd rfl h)) ?_
  exact kk M2 h3
set_option maxRecDepth 100000 in
set_option maxHeartbeats 4000000 in
theorem zw_case_takes {p : Program} {l : Launch} {e : Env} {s : State} {m : MethodId} {below : List Frame} {meth : Method} {c : Code} {b L : Nat} {xs : Nat → Int32} {E : zz_E} (C : zz_C E RL code 4 wsL_law p s m #[Value.ref b] meth c) (hX : va_X b L xs s s.heap) (hbl : b < s.heap.size) (hE : E.1 = s.heap.size) (hL : L ≤ 3072) {Inv : zz_M → Prop} {M : zz_M} (hop : (∀ (x1 : Int32) (x2 : Int32), zw_eq Inv (f_X8_takes 0 x1 x2) (f_X9_takes 129 x1 x2) M)) {i : Nat} {x3 : Int32} (hx3 : x3 = nI i) (hi : i + 6 ≤ L) {ls : Array Slot} (hl : lv_has ls 4 [(0, .ref b), (1, .ref (E.1 + 0)), (2, .ref (E.1 + 129)), (3, .int x3)]) (kk : ∀ M2 : zz_M, Inv M2 → zw_Z E p l e s m b below meth c 141 4382 M2 (F0 m 1499 ls [])) : zw_Z E p l e s m b below meth c 141 4382 M (F0 m 472 ls []) := by
  obtain ⟨r, M1, M2, h1, h2, h3⟩ := hop (xs (i + 1)) (xs (i + 2))
  refine zw_step (fun H locs k => lv_aload_n C.1.1 C.1.2.1 dL_law_472 rfl (lv_at hl 1 rfl) k) ?_
  refine zw_arg (k := 1) (p0 := 0) (p3 := 3) C hX hbl hE hl rfl rfl hx3 (by omega) (by omega) (by decide) dL_law_473 dL_law_474 dL_law_475 dL_law_476 dL_law_477 ?_
  refine zw_arg (k := 2) (p0 := 0) (p3 := 3) C hX hbl hE hl rfl rfl hx3 (by omega) (by omega) (by decide) dL_law_478 dL_law_479 dL_law_480 dL_law_481 dL_law_482 ?_
  refine zw_callVi (As := [.int (xs (i + 1)), .int (xs (i + 2))]) (rest := []) C (m_X8_takes l E 0 (xs (i + 1)) (xs (i + 2)) zw_k0 M) h1 (cwV 2 C.1.2.2.2.2 gL_law_X8_takes rfl rfl rfl hdW_X8_takes ⟨Nat.le_of_ble_eq_true rfl, Nat.le_of_ble_eq_true rfl⟩) (zz_lt zw_k0 (by decide)) (zz_c8 zw_k0) rfl rfl hl.1 rfl (Nat.le_of_ble_eq_true rfl) dL_law_483 (Nat.le_of_ble_eq_true rfl) (Nat.le_of_ble_eq_true rfl) ?_
  refine zw_step (fun H locs k => lv_aload_n C.1.1 C.1.2.1 dL_law_486 rfl (lv_at hl 2 rfl) k) ?_
  refine zw_arg (k := 1) (p0 := 0) (p3 := 3) C hX hbl hE hl rfl rfl hx3 (by omega) (by omega) (by decide) dL_law_487 dL_law_488 dL_law_489 dL_law_490 dL_law_491 ?_
  refine zw_arg (k := 2) (p0 := 0) (p3 := 3) C hX hbl hE hl rfl rfl hx3 (by omega) (by omega) (by decide) dL_law_492 dL_law_493 dL_law_494 dL_law_495 dL_law_496 ?_
  refine zw_callVi (As := [.int (xs (i + 1)), .int (xs (i + 2))]) (rest := [.int r]) C (m_X9_takes l E 129 (xs (i + 1)) (xs (i + 2)) zw_k129 M1) h2 (cwV 2 C.1.2.2.2.2 gL_law_X9_takes rfl rfl rfl hdW_X9_takes ⟨Nat.le_of_ble_eq_true rfl, Nat.le_of_ble_eq_true rfl⟩) (zz_lt zw_k129 (by decide)) (zz_c9 zw_k129) rfl rfl hl.1 rfl (Nat.le_of_ble_eq_true rfl) dL_law_497 (Nat.le_of_ble_eq_true rfl) (Nat.le_of_ble_eq_true rfl) ?_
  refine zw_step (fun H locs k => lv_icmp_eq (tgt := 1499) C.1.1 C.1.2.1 dL_law_500 (by decide) (fun _ => k) (fun h => absurd rfl h)) ?_
  exact kk M2 h3
set_option maxRecDepth 100000 in
set_option maxHeartbeats 4000000 in
theorem zw_case_dip {p : Program} {l : Launch} {e : Env} {s : State} {m : MethodId} {below : List Frame} {meth : Method} {c : Code} {b L : Nat} {xs : Nat → Int32} {E : zz_E} (C : zz_C E RL code 4 wsL_law p s m #[Value.ref b] meth c) (hX : va_X b L xs s s.heap) (hbl : b < s.heap.size) (hE : E.1 = s.heap.size) (hL : L ≤ 3072) {Inv : zz_M → Prop} {M : zz_M} (hop : (∀ (x1 : Int32) (x2 : Int32), zw_eq Inv (f_X8_dip 0 x1 x2) (f_X9_dip 129 x1 x2) M)) {i : Nat} {x3 : Int32} (hx3 : x3 = nI i) (hi : i + 6 ≤ L) {ls : Array Slot} (hl : lv_has ls 4 [(0, .ref b), (1, .ref (E.1 + 0)), (2, .ref (E.1 + 129)), (3, .int x3)]) (kk : ∀ M2 : zz_M, Inv M2 → zw_Z E p l e s m b below meth c 141 4382 M2 (F0 m 1499 ls [])) : zw_Z E p l e s m b below meth c 141 4382 M (F0 m 505 ls []) := by
  obtain ⟨r, M1, M2, h1, h2, h3⟩ := hop (xs (i + 1)) (xs (i + 2))
  refine zw_step (fun H locs k => lv_aload_n C.1.1 C.1.2.1 dL_law_505 rfl (lv_at hl 1 rfl) k) ?_
  refine zw_arg (k := 1) (p0 := 0) (p3 := 3) C hX hbl hE hl rfl rfl hx3 (by omega) (by omega) (by decide) dL_law_506 dL_law_507 dL_law_508 dL_law_509 dL_law_510 ?_
  refine zw_arg (k := 2) (p0 := 0) (p3 := 3) C hX hbl hE hl rfl rfl hx3 (by omega) (by omega) (by decide) dL_law_511 dL_law_512 dL_law_513 dL_law_514 dL_law_515 ?_
  refine zw_callVi (As := [.int (xs (i + 1)), .int (xs (i + 2))]) (rest := []) C (m_X8_dip l E 0 (xs (i + 1)) (xs (i + 2)) zw_k0 M) h1 (cwV 2 C.1.2.2.2.2 gL_law_X8_dip rfl rfl rfl hdW_X8_dip ⟨Nat.le_of_ble_eq_true rfl, Nat.le_of_ble_eq_true rfl⟩) (zz_lt zw_k0 (by decide)) (zz_c8 zw_k0) rfl rfl hl.1 rfl (Nat.le_of_ble_eq_true rfl) dL_law_516 (Nat.le_of_ble_eq_true rfl) (Nat.le_of_ble_eq_true rfl) ?_
  refine zw_step (fun H locs k => lv_aload_n C.1.1 C.1.2.1 dL_law_519 rfl (lv_at hl 2 rfl) k) ?_
  refine zw_arg (k := 1) (p0 := 0) (p3 := 3) C hX hbl hE hl rfl rfl hx3 (by omega) (by omega) (by decide) dL_law_520 dL_law_521 dL_law_522 dL_law_523 dL_law_524 ?_
  refine zw_arg (k := 2) (p0 := 0) (p3 := 3) C hX hbl hE hl rfl rfl hx3 (by omega) (by omega) (by decide) dL_law_525 dL_law_526 dL_law_527 dL_law_528 dL_law_529 ?_
  refine zw_callVi (As := [.int (xs (i + 1)), .int (xs (i + 2))]) (rest := [.int r]) C (m_X9_dip l E 129 (xs (i + 1)) (xs (i + 2)) zw_k129 M1) h2 (cwV 2 C.1.2.2.2.2 gL_law_X9_dip rfl rfl rfl hdW_X9_dip ⟨Nat.le_of_ble_eq_true rfl, Nat.le_of_ble_eq_true rfl⟩) (zz_lt zw_k129 (by decide)) (zz_c9 zw_k129) rfl rfl hl.1 rfl (Nat.le_of_ble_eq_true rfl) dL_law_530 (Nat.le_of_ble_eq_true rfl) (Nat.le_of_ble_eq_true rfl) ?_
  refine zw_step (fun H locs k => lv_icmp_eq (tgt := 1499) C.1.1 C.1.2.1 dL_law_533 (by decide) (fun _ => k) (fun h => absurd rfl h)) ?_
  exact kk M2 h3
set_option maxRecDepth 100000 in
set_option maxHeartbeats 4000000 in
theorem zw_case_melt {p : Program} {l : Launch} {e : Env} {s : State} {m : MethodId} {below : List Frame} {meth : Method} {c : Code} {b L : Nat} {xs : Nat → Int32} {E : zz_E} (C : zz_C E RL code 4 wsL_law p s m #[Value.ref b] meth c) (hX : va_X b L xs s s.heap) (hbl : b < s.heap.size) (hE : E.1 = s.heap.size) (hL : L ≤ 3072) {Inv : zz_M → Prop} {M : zz_M} (hop : (∀ (x1 : Int32) (x2 : Int32), zw_eq Inv (f_X8_melt 0 x1 x2) (f_X9_melt 129 x1 x2) M)) {i : Nat} {x3 : Int32} (hx3 : x3 = nI i) (hi : i + 6 ≤ L) {ls : Array Slot} (hl : lv_has ls 4 [(0, .ref b), (1, .ref (E.1 + 0)), (2, .ref (E.1 + 129)), (3, .int x3)]) (kk : ∀ M2 : zz_M, Inv M2 → zw_Z E p l e s m b below meth c 141 4382 M2 (F0 m 1499 ls [])) : zw_Z E p l e s m b below meth c 141 4382 M (F0 m 538 ls []) := by
  obtain ⟨r, M1, M2, h1, h2, h3⟩ := hop (xs (i + 1)) (xs (i + 2))
  refine zw_step (fun H locs k => lv_aload_n C.1.1 C.1.2.1 dL_law_538 rfl (lv_at hl 1 rfl) k) ?_
  refine zw_arg (k := 1) (p0 := 0) (p3 := 3) C hX hbl hE hl rfl rfl hx3 (by omega) (by omega) (by decide) dL_law_539 dL_law_540 dL_law_541 dL_law_542 dL_law_543 ?_
  refine zw_arg (k := 2) (p0 := 0) (p3 := 3) C hX hbl hE hl rfl rfl hx3 (by omega) (by omega) (by decide) dL_law_544 dL_law_545 dL_law_546 dL_law_547 dL_law_548 ?_
  refine zw_callVi (As := [.int (xs (i + 1)), .int (xs (i + 2))]) (rest := []) C (m_X8_melt l E 0 (xs (i + 1)) (xs (i + 2)) zw_k0 M) h1 (cwV 2 C.1.2.2.2.2 gL_law_X8_melt rfl rfl rfl hdW_X8_melt ⟨Nat.le_of_ble_eq_true rfl, Nat.le_of_ble_eq_true rfl⟩) (zz_lt zw_k0 (by decide)) (zz_c8 zw_k0) rfl rfl hl.1 rfl (Nat.le_of_ble_eq_true rfl) dL_law_549 (Nat.le_of_ble_eq_true rfl) (Nat.le_of_ble_eq_true rfl) ?_
  refine zw_step (fun H locs k => lv_aload_n C.1.1 C.1.2.1 dL_law_552 rfl (lv_at hl 2 rfl) k) ?_
  refine zw_arg (k := 1) (p0 := 0) (p3 := 3) C hX hbl hE hl rfl rfl hx3 (by omega) (by omega) (by decide) dL_law_553 dL_law_554 dL_law_555 dL_law_556 dL_law_557 ?_
  refine zw_arg (k := 2) (p0 := 0) (p3 := 3) C hX hbl hE hl rfl rfl hx3 (by omega) (by omega) (by decide) dL_law_558 dL_law_559 dL_law_560 dL_law_561 dL_law_562 ?_
  refine zw_callVi (As := [.int (xs (i + 1)), .int (xs (i + 2))]) (rest := [.int r]) C (m_X9_melt l E 129 (xs (i + 1)) (xs (i + 2)) zw_k129 M1) h2 (cwV 2 C.1.2.2.2.2 gL_law_X9_melt rfl rfl rfl hdW_X9_melt ⟨Nat.le_of_ble_eq_true rfl, Nat.le_of_ble_eq_true rfl⟩) (zz_lt zw_k129 (by decide)) (zz_c9 zw_k129) rfl rfl hl.1 rfl (Nat.le_of_ble_eq_true rfl) dL_law_563 (Nat.le_of_ble_eq_true rfl) (Nat.le_of_ble_eq_true rfl) ?_
  refine zw_step (fun H locs k => lv_icmp_eq (tgt := 1499) C.1.1 C.1.2.1 dL_law_566 (by decide) (fun _ => k) (fun h => absurd rfl h)) ?_
  exact kk M2 h3
set_option maxRecDepth 100000 in
set_option maxHeartbeats 4000000 in
theorem zw_case_burn {p : Program} {l : Launch} {e : Env} {s : State} {m : MethodId} {below : List Frame} {meth : Method} {c : Code} {b L : Nat} {xs : Nat → Int32} {E : zz_E} (C : zz_C E RL code 4 wsL_law p s m #[Value.ref b] meth c) (hX : va_X b L xs s s.heap) (hbl : b < s.heap.size) (hE : E.1 = s.heap.size) (hL : L ≤ 3072) {Inv : zz_M → Prop} {M : zz_M} (hop : (∀ (x1 : Int32) (x2 : Int32), zw_eq Inv (f_X8_burn 0 x1 x2) (f_X9_burn 129 x1 x2) M)) {i : Nat} {x3 : Int32} (hx3 : x3 = nI i) (hi : i + 6 ≤ L) {ls : Array Slot} (hl : lv_has ls 4 [(0, .ref b), (1, .ref (E.1 + 0)), (2, .ref (E.1 + 129)), (3, .int x3)]) (kk : ∀ M2 : zz_M, Inv M2 → zw_Z E p l e s m b below meth c 141 4382 M2 (F0 m 1499 ls [])) : zw_Z E p l e s m b below meth c 141 4382 M (F0 m 571 ls []) := by
  obtain ⟨r, M1, M2, h1, h2, h3⟩ := hop (xs (i + 1)) (xs (i + 2))
  refine zw_step (fun H locs k => lv_aload_n C.1.1 C.1.2.1 dL_law_571 rfl (lv_at hl 1 rfl) k) ?_
  refine zw_arg (k := 1) (p0 := 0) (p3 := 3) C hX hbl hE hl rfl rfl hx3 (by omega) (by omega) (by decide) dL_law_572 dL_law_573 dL_law_574 dL_law_575 dL_law_576 ?_
  refine zw_arg (k := 2) (p0 := 0) (p3 := 3) C hX hbl hE hl rfl rfl hx3 (by omega) (by omega) (by decide) dL_law_577 dL_law_578 dL_law_579 dL_law_580 dL_law_581 ?_
  refine zw_callVi (As := [.int (xs (i + 1)), .int (xs (i + 2))]) (rest := []) C (m_X8_burn l E 0 (xs (i + 1)) (xs (i + 2)) zw_k0 M) h1 (cwV 2 C.1.2.2.2.2 gL_law_X8_burn rfl rfl rfl hdW_X8_burn ⟨Nat.le_of_ble_eq_true rfl, Nat.le_of_ble_eq_true rfl⟩) (zz_lt zw_k0 (by decide)) (zz_c8 zw_k0) rfl rfl hl.1 rfl (Nat.le_of_ble_eq_true rfl) dL_law_582 (Nat.le_of_ble_eq_true rfl) (Nat.le_of_ble_eq_true rfl) ?_
  refine zw_step (fun H locs k => lv_aload_n C.1.1 C.1.2.1 dL_law_585 rfl (lv_at hl 2 rfl) k) ?_
  refine zw_arg (k := 1) (p0 := 0) (p3 := 3) C hX hbl hE hl rfl rfl hx3 (by omega) (by omega) (by decide) dL_law_586 dL_law_587 dL_law_588 dL_law_589 dL_law_590 ?_
  refine zw_arg (k := 2) (p0 := 0) (p3 := 3) C hX hbl hE hl rfl rfl hx3 (by omega) (by omega) (by decide) dL_law_591 dL_law_592 dL_law_593 dL_law_594 dL_law_595 ?_
  refine zw_callVi (As := [.int (xs (i + 1)), .int (xs (i + 2))]) (rest := [.int r]) C (m_X9_burn l E 129 (xs (i + 1)) (xs (i + 2)) zw_k129 M1) h2 (cwV 2 C.1.2.2.2.2 gL_law_X9_burn rfl rfl rfl hdW_X9_burn ⟨Nat.le_of_ble_eq_true rfl, Nat.le_of_ble_eq_true rfl⟩) (zz_lt zw_k129 (by decide)) (zz_c9 zw_k129) rfl rfl hl.1 rfl (Nat.le_of_ble_eq_true rfl) dL_law_596 (Nat.le_of_ble_eq_true rfl) (Nat.le_of_ble_eq_true rfl) ?_
  refine zw_step (fun H locs k => lv_icmp_eq (tgt := 1499) C.1.1 C.1.2.1 dL_law_599 (by decide) (fun _ => k) (fun h => absurd rfl h)) ?_
  exact kk M2 h3
set_option maxRecDepth 100000 in
set_option maxHeartbeats 4000000 in
theorem zw_case_hours {p : Program} {l : Launch} {e : Env} {s : State} {m : MethodId} {below : List Frame} {meth : Method} {c : Code} {b L : Nat} {xs : Nat → Int32} {E : zz_E} (C : zz_C E RL code 4 wsL_law p s m #[Value.ref b] meth c) (hX : va_X b L xs s s.heap) (hbl : b < s.heap.size) (hE : E.1 = s.heap.size) (hL : L ≤ 3072) {Inv : zz_M → Prop} {M : zz_M} (hop : (∀ (x1 : Int32), zw_eq Inv (f_X8_hours 0 x1) (f_X9_hours 129 x1) M)) {i : Nat} {x3 : Int32} (hx3 : x3 = nI i) (hi : i + 6 ≤ L) {ls : Array Slot} (hl : lv_has ls 4 [(0, .ref b), (1, .ref (E.1 + 0)), (2, .ref (E.1 + 129)), (3, .int x3)]) (kk : ∀ M2 : zz_M, Inv M2 → zw_Z E p l e s m b below meth c 141 4382 M2 (F0 m 1499 ls [])) : zw_Z E p l e s m b below meth c 141 4382 M (F0 m 604 ls []) := by
  obtain ⟨r, M1, M2, h1, h2, h3⟩ := hop (xs (i + 1))
  refine zw_step (fun H locs k => lv_aload_n C.1.1 C.1.2.1 dL_law_604 rfl (lv_at hl 1 rfl) k) ?_
  refine zw_arg (k := 1) (p0 := 0) (p3 := 3) C hX hbl hE hl rfl rfl hx3 (by omega) (by omega) (by decide) dL_law_605 dL_law_606 dL_law_607 dL_law_608 dL_law_609 ?_
  refine zw_callVi (As := [.int (xs (i + 1))]) (rest := []) C (m_X8_hours l E 0 (xs (i + 1)) zw_k0 M) h1 (cwV 1 C.1.2.2.2.2 gL_law_X8_hours rfl rfl rfl hdW_X8_hours ⟨Nat.le_of_ble_eq_true rfl, Nat.le_of_ble_eq_true rfl⟩) (zz_lt zw_k0 (by decide)) (zz_c8 zw_k0) rfl rfl hl.1 rfl (Nat.le_of_ble_eq_true rfl) dL_law_610 (Nat.le_of_ble_eq_true rfl) (Nat.le_of_ble_eq_true rfl) ?_
  refine zw_step (fun H locs k => lv_aload_n C.1.1 C.1.2.1 dL_law_613 rfl (lv_at hl 2 rfl) k) ?_
  refine zw_arg (k := 1) (p0 := 0) (p3 := 3) C hX hbl hE hl rfl rfl hx3 (by omega) (by omega) (by decide) dL_law_614 dL_law_615 dL_law_616 dL_law_617 dL_law_618 ?_
  refine zw_callVi (As := [.int (xs (i + 1))]) (rest := [.int r]) C (m_X9_hours l E 129 (xs (i + 1)) zw_k129 M1) h2 (cwV 1 C.1.2.2.2.2 gL_law_X9_hours rfl rfl rfl hdW_X9_hours ⟨Nat.le_of_ble_eq_true rfl, Nat.le_of_ble_eq_true rfl⟩) (zz_lt zw_k129 (by decide)) (zz_c9 zw_k129) rfl rfl hl.1 rfl (Nat.le_of_ble_eq_true rfl) dL_law_619 (Nat.le_of_ble_eq_true rfl) (Nat.le_of_ble_eq_true rfl) ?_
  refine zw_step (fun H locs k => lv_icmp_eq (tgt := 1499) C.1.1 C.1.2.1 dL_law_622 (by decide) (fun _ => k) (fun h => absurd rfl h)) ?_
  exact kk M2 h3
set_option maxRecDepth 100000 in
set_option maxHeartbeats 4000000 in
theorem zw_case_now {p : Program} {l : Launch} {e : Env} {s : State} {m : MethodId} {below : List Frame} {meth : Method} {c : Code} {b L : Nat} {xs : Nat → Int32} {E : zz_E} (C : zz_C E RL code 4 wsL_law p s m #[Value.ref b] meth c) (hX : va_X b L xs s s.heap) (hbl : b < s.heap.size) (hE : E.1 = s.heap.size) (hL : L ≤ 3072) {Inv : zz_M → Prop} {M : zz_M} (hop : (∀ (x1 : Int32), zw_eq Inv (f_X8_now 0 x1) (f_X9_now 129 x1) M)) {i : Nat} {x3 : Int32} (hx3 : x3 = nI i) (hi : i + 6 ≤ L) {ls : Array Slot} (hl : lv_has ls 4 [(0, .ref b), (1, .ref (E.1 + 0)), (2, .ref (E.1 + 129)), (3, .int x3)]) (kk : ∀ M2 : zz_M, Inv M2 → zw_Z E p l e s m b below meth c 141 4382 M2 (F0 m 1499 ls [])) : zw_Z E p l e s m b below meth c 141 4382 M (F0 m 627 ls []) := by
  obtain ⟨r, M1, M2, h1, h2, h3⟩ := hop (xs (i + 1))
  refine zw_step (fun H locs k => lv_aload_n C.1.1 C.1.2.1 dL_law_627 rfl (lv_at hl 1 rfl) k) ?_
  refine zw_arg (k := 1) (p0 := 0) (p3 := 3) C hX hbl hE hl rfl rfl hx3 (by omega) (by omega) (by decide) dL_law_628 dL_law_629 dL_law_630 dL_law_631 dL_law_632 ?_
  refine zw_callVi (As := [.int (xs (i + 1))]) (rest := []) C (m_X8_now l E 0 (xs (i + 1)) zw_k0 M) h1 (cwV 1 C.1.2.2.2.2 gL_law_X8_now rfl rfl rfl hdW_X8_now ⟨Nat.le_of_ble_eq_true rfl, Nat.le_of_ble_eq_true rfl⟩) (zz_lt zw_k0 (by decide)) (zz_c8 zw_k0) rfl rfl hl.1 rfl (Nat.le_of_ble_eq_true rfl) dL_law_633 (Nat.le_of_ble_eq_true rfl) (Nat.le_of_ble_eq_true rfl) ?_
  refine zw_step (fun H locs k => lv_aload_n C.1.1 C.1.2.1 dL_law_636 rfl (lv_at hl 2 rfl) k) ?_
  refine zw_arg (k := 1) (p0 := 0) (p3 := 3) C hX hbl hE hl rfl rfl hx3 (by omega) (by omega) (by decide) dL_law_637 dL_law_638 dL_law_639 dL_law_640 dL_law_641 ?_
  refine zw_callVi (As := [.int (xs (i + 1))]) (rest := [.int r]) C (m_X9_now l E 129 (xs (i + 1)) zw_k129 M1) h2 (cwV 1 C.1.2.2.2.2 gL_law_X9_now rfl rfl rfl hdW_X9_now ⟨Nat.le_of_ble_eq_true rfl, Nat.le_of_ble_eq_true rfl⟩) (zz_lt zw_k129 (by decide)) (zz_c9 zw_k129) rfl rfl hl.1 rfl (Nat.le_of_ble_eq_true rfl) dL_law_642 (Nat.le_of_ble_eq_true rfl) (Nat.le_of_ble_eq_true rfl) ?_
  refine zw_step (fun H locs k => lv_icmp_eq (tgt := 1499) C.1.1 C.1.2.1 dL_law_645 (by decide) (fun _ => k) (fun h => absurd rfl h)) ?_
  exact kk M2 h3
set_option maxRecDepth 100000 in
set_option maxHeartbeats 4000000 in
theorem zw_case_warm {p : Program} {l : Launch} {e : Env} {s : State} {m : MethodId} {below : List Frame} {meth : Method} {c : Code} {b L : Nat} {xs : Nat → Int32} {E : zz_E} (C : zz_C E RL code 4 wsL_law p s m #[Value.ref b] meth c) (hX : va_X b L xs s s.heap) (hbl : b < s.heap.size) (hE : E.1 = s.heap.size) (hL : L ≤ 3072) {Inv : zz_M → Prop} {M : zz_M} (hop : (∀ (x1 : Int32) (x2 : Int32), zw_eq Inv (f_X8_warm 0 x1 x2) (f_X9_warm 129 x1 x2) M)) {i : Nat} {x3 : Int32} (hx3 : x3 = nI i) (hi : i + 6 ≤ L) {ls : Array Slot} (hl : lv_has ls 4 [(0, .ref b), (1, .ref (E.1 + 0)), (2, .ref (E.1 + 129)), (3, .int x3)]) (kk : ∀ M2 : zz_M, Inv M2 → zw_Z E p l e s m b below meth c 141 4382 M2 (F0 m 1499 ls [])) : zw_Z E p l e s m b below meth c 141 4382 M (F0 m 650 ls []) := by
  obtain ⟨r, M1, M2, h1, h2, h3⟩ := hop (xs (i + 1)) (xs (i + 2))
  refine zw_step (fun H locs k => lv_aload_n C.1.1 C.1.2.1 dL_law_650 rfl (lv_at hl 1 rfl) k) ?_
  refine zw_arg (k := 1) (p0 := 0) (p3 := 3) C hX hbl hE hl rfl rfl hx3 (by omega) (by omega) (by decide) dL_law_651 dL_law_652 dL_law_653 dL_law_654 dL_law_655 ?_
  refine zw_arg (k := 2) (p0 := 0) (p3 := 3) C hX hbl hE hl rfl rfl hx3 (by omega) (by omega) (by decide) dL_law_656 dL_law_657 dL_law_658 dL_law_659 dL_law_660 ?_
  refine zw_callVi (As := [.int (xs (i + 1)), .int (xs (i + 2))]) (rest := []) C (m_X8_warm l E 0 (xs (i + 1)) (xs (i + 2)) zw_k0 M) h1 (cwV 2 C.1.2.2.2.2 gL_law_X8_warm rfl rfl rfl hdW_X8_warm ⟨Nat.le_of_ble_eq_true rfl, Nat.le_of_ble_eq_true rfl⟩) (zz_lt zw_k0 (by decide)) (zz_c8 zw_k0) rfl rfl hl.1 rfl (Nat.le_of_ble_eq_true rfl) dL_law_661 (Nat.le_of_ble_eq_true rfl) (Nat.le_of_ble_eq_true rfl) ?_
  refine zw_step (fun H locs k => lv_aload_n C.1.1 C.1.2.1 dL_law_664 rfl (lv_at hl 2 rfl) k) ?_
  refine zw_arg (k := 1) (p0 := 0) (p3 := 3) C hX hbl hE hl rfl rfl hx3 (by omega) (by omega) (by decide) dL_law_665 dL_law_666 dL_law_667 dL_law_668 dL_law_669 ?_
  refine zw_arg (k := 2) (p0 := 0) (p3 := 3) C hX hbl hE hl rfl rfl hx3 (by omega) (by omega) (by decide) dL_law_670 dL_law_671 dL_law_672 dL_law_673 dL_law_674 ?_
  refine zw_callVi (As := [.int (xs (i + 1)), .int (xs (i + 2))]) (rest := [.int r]) C (m_X9_warm l E 129 (xs (i + 1)) (xs (i + 2)) zw_k129 M1) h2 (cwV 2 C.1.2.2.2.2 gL_law_X9_warm rfl rfl rfl hdW_X9_warm ⟨Nat.le_of_ble_eq_true rfl, Nat.le_of_ble_eq_true rfl⟩) (zz_lt zw_k129 (by decide)) (zz_c9 zw_k129) rfl rfl hl.1 rfl (Nat.le_of_ble_eq_true rfl) dL_law_675 (Nat.le_of_ble_eq_true rfl) (Nat.le_of_ble_eq_true rfl) ?_
  refine zw_step (fun H locs k => lv_icmp_eq (tgt := 1499) C.1.1 C.1.2.1 dL_law_678 (by decide) (fun _ => k) (fun h => absurd rfl h)) ?_
  exact kk M2 h3
set_option maxRecDepth 100000 in
set_option maxHeartbeats 4000000 in
theorem zw_case_when {p : Program} {l : Launch} {e : Env} {s : State} {m : MethodId} {below : List Frame} {meth : Method} {c : Code} {b L : Nat} {xs : Nat → Int32} {E : zz_E} (C : zz_C E RL code 4 wsL_law p s m #[Value.ref b] meth c) (hX : va_X b L xs s s.heap) (hbl : b < s.heap.size) (hE : E.1 = s.heap.size) (hL : L ≤ 3072) {Inv : zz_M → Prop} {M : zz_M} (hop : (∀ (x1 : Int32) (x2 : Int32), zw_eq Inv (f_X8_when 0 x1 x2) (f_X9_when 129 x1 x2) M)) {i : Nat} {x3 : Int32} (hx3 : x3 = nI i) (hi : i + 6 ≤ L) {ls : Array Slot} (hl : lv_has ls 4 [(0, .ref b), (1, .ref (E.1 + 0)), (2, .ref (E.1 + 129)), (3, .int x3)]) (kk : ∀ M2 : zz_M, Inv M2 → zw_Z E p l e s m b below meth c 141 4382 M2 (F0 m 1499 ls [])) : zw_Z E p l e s m b below meth c 141 4382 M (F0 m 683 ls []) := by
  obtain ⟨r, M1, M2, h1, h2, h3⟩ := hop (xs (i + 1)) (xs (i + 2))
  refine zw_step (fun H locs k => lv_aload_n C.1.1 C.1.2.1 dL_law_683 rfl (lv_at hl 1 rfl) k) ?_
  refine zw_arg (k := 1) (p0 := 0) (p3 := 3) C hX hbl hE hl rfl rfl hx3 (by omega) (by omega) (by decide) dL_law_684 dL_law_685 dL_law_686 dL_law_687 dL_law_688 ?_
  refine zw_arg (k := 2) (p0 := 0) (p3 := 3) C hX hbl hE hl rfl rfl hx3 (by omega) (by omega) (by decide) dL_law_689 dL_law_690 dL_law_691 dL_law_692 dL_law_693 ?_
  refine zw_callVi (As := [.int (xs (i + 1)), .int (xs (i + 2))]) (rest := []) C (m_X8_when l E 0 (xs (i + 1)) (xs (i + 2)) zw_k0 M) h1 (cwV 2 C.1.2.2.2.2 gL_law_X8_when rfl rfl rfl hdW_X8_when ⟨Nat.le_of_ble_eq_true rfl, Nat.le_of_ble_eq_true rfl⟩) (zz_lt zw_k0 (by decide)) (zz_c8 zw_k0) rfl rfl hl.1 rfl (Nat.le_of_ble_eq_true rfl) dL_law_694 (Nat.le_of_ble_eq_true rfl) (Nat.le_of_ble_eq_true rfl) ?_
  refine zw_step (fun H locs k => lv_aload_n C.1.1 C.1.2.1 dL_law_697 rfl (lv_at hl 2 rfl) k) ?_
  refine zw_arg (k := 1) (p0 := 0) (p3 := 3) C hX hbl hE hl rfl rfl hx3 (by omega) (by omega) (by decide) dL_law_698 dL_law_699 dL_law_700 dL_law_701 dL_law_702 ?_
  refine zw_arg (k := 2) (p0 := 0) (p3 := 3) C hX hbl hE hl rfl rfl hx3 (by omega) (by omega) (by decide) dL_law_703 dL_law_704 dL_law_705 dL_law_706 dL_law_707 ?_
  refine zw_callVi (As := [.int (xs (i + 1)), .int (xs (i + 2))]) (rest := [.int r]) C (m_X9_when l E 129 (xs (i + 1)) (xs (i + 2)) zw_k129 M1) h2 (cwV 2 C.1.2.2.2.2 gL_law_X9_when rfl rfl rfl hdW_X9_when ⟨Nat.le_of_ble_eq_true rfl, Nat.le_of_ble_eq_true rfl⟩) (zz_lt zw_k129 (by decide)) (zz_c9 zw_k129) rfl rfl hl.1 rfl (Nat.le_of_ble_eq_true rfl) dL_law_708 (Nat.le_of_ble_eq_true rfl) (Nat.le_of_ble_eq_true rfl) ?_
  refine zw_step (fun H locs k => lv_icmp_eq (tgt := 1499) C.1.1 C.1.2.1 dL_law_711 (by decide) (fun _ => k) (fun h => absurd rfl h)) ?_
  exact kk M2 h3
set_option maxRecDepth 100000 in
set_option maxHeartbeats 4000000 in
theorem zw_case_takesIn {p : Program} {l : Launch} {e : Env} {s : State} {m : MethodId} {below : List Frame} {meth : Method} {c : Code} {b L : Nat} {xs : Nat → Int32} {E : zz_E} (C : zz_C E RL code 4 wsL_law p s m #[Value.ref b] meth c) (hX : va_X b L xs s s.heap) (hbl : b < s.heap.size) (hE : E.1 = s.heap.size) (hL : L ≤ 3072) {Inv : zz_M → Prop} {M : zz_M} (hop : (∀ (x1 : Int32) (x2 : Int32) (x3 : Int32), zw_eq Inv (f_X8_takesIn 0 x1 x2 x3) (f_X9_takesIn 129 x1 x2 x3) M)) {i : Nat} {x3 : Int32} (hx3 : x3 = nI i) (hi : i + 6 ≤ L) {ls : Array Slot} (hl : lv_has ls 4 [(0, .ref b), (1, .ref (E.1 + 0)), (2, .ref (E.1 + 129)), (3, .int x3)]) (kk : ∀ M2 : zz_M, Inv M2 → zw_Z E p l e s m b below meth c 141 4382 M2 (F0 m 1499 ls [])) : zw_Z E p l e s m b below meth c 141 4382 M (F0 m 716 ls []) := by
  obtain ⟨r, M1, M2, h1, h2, h3⟩ := hop (xs (i + 1)) (xs (i + 2)) (xs (i + 3))
  refine zw_step (fun H locs k => lv_aload_n C.1.1 C.1.2.1 dL_law_716 rfl (lv_at hl 1 rfl) k) ?_
  refine zw_arg (k := 1) (p0 := 0) (p3 := 3) C hX hbl hE hl rfl rfl hx3 (by omega) (by omega) (by decide) dL_law_717 dL_law_718 dL_law_719 dL_law_720 dL_law_721 ?_
  refine zw_arg (k := 2) (p0 := 0) (p3 := 3) C hX hbl hE hl rfl rfl hx3 (by omega) (by omega) (by decide) dL_law_722 dL_law_723 dL_law_724 dL_law_725 dL_law_726 ?_
  refine zw_arg (k := 3) (p0 := 0) (p3 := 3) C hX hbl hE hl rfl rfl hx3 (by omega) (by omega) (by decide) dL_law_727 dL_law_728 dL_law_729 dL_law_730 dL_law_731 ?_
  refine zw_callVi (As := [.int (xs (i + 1)), .int (xs (i + 2)), .int (xs (i + 3))]) (rest := []) C (m_X8_takesIn l E 0 (xs (i + 1)) (xs (i + 2)) (xs (i + 3)) zw_k0 M) h1 (cwV 3 C.1.2.2.2.2 gL_law_X8_takesIn rfl rfl rfl hdW_X8_takesIn ⟨Nat.le_of_ble_eq_true rfl, Nat.le_of_ble_eq_true rfl⟩) (zz_lt zw_k0 (by decide)) (zz_c8 zw_k0) rfl rfl hl.1 rfl (Nat.le_of_ble_eq_true rfl) dL_law_732 (Nat.le_of_ble_eq_true rfl) (Nat.le_of_ble_eq_true rfl) ?_
  refine zw_step (fun H locs k => lv_aload_n C.1.1 C.1.2.1 dL_law_735 rfl (lv_at hl 2 rfl) k) ?_
  refine zw_arg (k := 1) (p0 := 0) (p3 := 3) C hX hbl hE hl rfl rfl hx3 (by omega) (by omega) (by decide) dL_law_736 dL_law_737 dL_law_738 dL_law_739 dL_law_740 ?_
  refine zw_arg (k := 2) (p0 := 0) (p3 := 3) C hX hbl hE hl rfl rfl hx3 (by omega) (by omega) (by decide) dL_law_741 dL_law_742 dL_law_743 dL_law_744 dL_law_745 ?_
  refine zw_arg (k := 3) (p0 := 0) (p3 := 3) C hX hbl hE hl rfl rfl hx3 (by omega) (by omega) (by decide) dL_law_746 dL_law_747 dL_law_748 dL_law_749 dL_law_750 ?_
  refine zw_callVi (As := [.int (xs (i + 1)), .int (xs (i + 2)), .int (xs (i + 3))]) (rest := [.int r]) C (m_X9_takesIn l E 129 (xs (i + 1)) (xs (i + 2)) (xs (i + 3)) zw_k129 M1) h2 (cwV 3 C.1.2.2.2.2 gL_law_X9_takesIn rfl rfl rfl hdW_X9_takesIn ⟨Nat.le_of_ble_eq_true rfl, Nat.le_of_ble_eq_true rfl⟩) (zz_lt zw_k129 (by decide)) (zz_c9 zw_k129) rfl rfl hl.1 rfl (Nat.le_of_ble_eq_true rfl) dL_law_751 (Nat.le_of_ble_eq_true rfl) (Nat.le_of_ble_eq_true rfl) ?_
  refine zw_step (fun H locs k => lv_icmp_eq (tgt := 1499) C.1.1 C.1.2.1 dL_law_754 (by decide) (fun _ => k) (fun h => absurd rfl h)) ?_
  exact kk M2 h3
set_option maxRecDepth 100000 in
set_option maxHeartbeats 4000000 in
theorem zw_case_burns {p : Program} {l : Launch} {e : Env} {s : State} {m : MethodId} {below : List Frame} {meth : Method} {c : Code} {b L : Nat} {xs : Nat → Int32} {E : zz_E} (C : zz_C E RL code 4 wsL_law p s m #[Value.ref b] meth c) (hX : va_X b L xs s s.heap) (hbl : b < s.heap.size) (hE : E.1 = s.heap.size) (hL : L ≤ 3072) {Inv : zz_M → Prop} {M : zz_M} (hop : (∀ (x1 : Int32) (x2 : Int32) (x3 : Int32), zw_eq Inv (f_X8_burns 0 x1 x2 x3) (f_X9_burns 129 x1 x2 x3) M)) {i : Nat} {x3 : Int32} (hx3 : x3 = nI i) (hi : i + 6 ≤ L) {ls : Array Slot} (hl : lv_has ls 4 [(0, .ref b), (1, .ref (E.1 + 0)), (2, .ref (E.1 + 129)), (3, .int x3)]) (kk : ∀ M2 : zz_M, Inv M2 → zw_Z E p l e s m b below meth c 141 4382 M2 (F0 m 1499 ls [])) : zw_Z E p l e s m b below meth c 141 4382 M (F0 m 759 ls []) := by
  obtain ⟨r, M1, M2, h1, h2, h3⟩ := hop (xs (i + 1)) (xs (i + 2)) (xs (i + 3))
  refine zw_step (fun H locs k => lv_aload_n C.1.1 C.1.2.1 dL_law_759 rfl (lv_at hl 1 rfl) k) ?_
  refine zw_arg (k := 1) (p0 := 0) (p3 := 3) C hX hbl hE hl rfl rfl hx3 (by omega) (by omega) (by decide) dL_law_760 dL_law_761 dL_law_762 dL_law_763 dL_law_764 ?_
  refine zw_arg (k := 2) (p0 := 0) (p3 := 3) C hX hbl hE hl rfl rfl hx3 (by omega) (by omega) (by decide) dL_law_765 dL_law_766 dL_law_767 dL_law_768 dL_law_769 ?_
  refine zw_arg (k := 3) (p0 := 0) (p3 := 3) C hX hbl hE hl rfl rfl hx3 (by omega) (by omega) (by decide) dL_law_770 dL_law_771 dL_law_772 dL_law_773 dL_law_774 ?_
  refine zw_callVi (As := [.int (xs (i + 1)), .int (xs (i + 2)), .int (xs (i + 3))]) (rest := []) C (m_X8_burns l E 0 (xs (i + 1)) (xs (i + 2)) (xs (i + 3)) zw_k0 M) h1 (cwV 3 C.1.2.2.2.2 gL_law_X8_burns rfl rfl rfl hdW_X8_burns ⟨Nat.le_of_ble_eq_true rfl, Nat.le_of_ble_eq_true rfl⟩) (zz_lt zw_k0 (by decide)) (zz_c8 zw_k0) rfl rfl hl.1 rfl (Nat.le_of_ble_eq_true rfl) dL_law_775 (Nat.le_of_ble_eq_true rfl) (Nat.le_of_ble_eq_true rfl) ?_
  refine zw_step (fun H locs k => lv_aload_n C.1.1 C.1.2.1 dL_law_778 rfl (lv_at hl 2 rfl) k) ?_
  refine zw_arg (k := 1) (p0 := 0) (p3 := 3) C hX hbl hE hl rfl rfl hx3 (by omega) (by omega) (by decide) dL_law_779 dL_law_780 dL_law_781 dL_law_782 dL_law_783 ?_
  refine zw_arg (k := 2) (p0 := 0) (p3 := 3) C hX hbl hE hl rfl rfl hx3 (by omega) (by omega) (by decide) dL_law_784 dL_law_785 dL_law_786 dL_law_787 dL_law_788 ?_
  refine zw_arg (k := 3) (p0 := 0) (p3 := 3) C hX hbl hE hl rfl rfl hx3 (by omega) (by omega) (by decide) dL_law_789 dL_law_790 dL_law_791 dL_law_792 dL_law_793 ?_
  refine zw_callVi (As := [.int (xs (i + 1)), .int (xs (i + 2)), .int (xs (i + 3))]) (rest := [.int r]) C (m_X9_burns l E 129 (xs (i + 1)) (xs (i + 2)) (xs (i + 3)) zw_k129 M1) h2 (cwV 3 C.1.2.2.2.2 gL_law_X9_burns rfl rfl rfl hdW_X9_burns ⟨Nat.le_of_ble_eq_true rfl, Nat.le_of_ble_eq_true rfl⟩) (zz_lt zw_k129 (by decide)) (zz_c9 zw_k129) rfl rfl hl.1 rfl (Nat.le_of_ble_eq_true rfl) dL_law_794 (Nat.le_of_ble_eq_true rfl) (Nat.le_of_ble_eq_true rfl) ?_
  refine zw_step (fun H locs k => lv_icmp_eq (tgt := 1499) C.1.1 C.1.2.1 dL_law_797 (by decide) (fun _ => k) (fun h => absurd rfl h)) ?_
  exact kk M2 h3
set_option maxRecDepth 100000 in
set_option maxHeartbeats 4000000 in
theorem zw_case_fewest {p : Program} {l : Launch} {e : Env} {s : State} {m : MethodId} {below : List Frame} {meth : Method} {c : Code} {b L : Nat} {xs : Nat → Int32} {E : zz_E} (C : zz_C E RL code 4 wsL_law p s m #[Value.ref b] meth c) (hX : va_X b L xs s s.heap) (hbl : b < s.heap.size) (hE : E.1 = s.heap.size) (hL : L ≤ 3072) {Inv : zz_M → Prop} {M : zz_M} (hop : (∀ (x1 : Int32) (x2 : Int32), zw_eq Inv (f_X8_fewest 0 x1 x2) (f_X9_fewest 129 x1 x2) M)) {i : Nat} {x3 : Int32} (hx3 : x3 = nI i) (hi : i + 6 ≤ L) {ls : Array Slot} (hl : lv_has ls 4 [(0, .ref b), (1, .ref (E.1 + 0)), (2, .ref (E.1 + 129)), (3, .int x3)]) (kk : ∀ M2 : zz_M, Inv M2 → zw_Z E p l e s m b below meth c 141 4382 M2 (F0 m 1499 ls [])) : zw_Z E p l e s m b below meth c 141 4382 M (F0 m 802 ls []) := by
  obtain ⟨r, M1, M2, h1, h2, h3⟩ := hop (xs (i + 1)) (xs (i + 2))
  refine zw_step (fun H locs k => lv_aload_n C.1.1 C.1.2.1 dL_law_802 rfl (lv_at hl 1 rfl) k) ?_
  refine zw_arg (k := 1) (p0 := 0) (p3 := 3) C hX hbl hE hl rfl rfl hx3 (by omega) (by omega) (by decide) dL_law_803 dL_law_804 dL_law_805 dL_law_806 dL_law_807 ?_
  refine zw_arg (k := 2) (p0 := 0) (p3 := 3) C hX hbl hE hl rfl rfl hx3 (by omega) (by omega) (by decide) dL_law_808 dL_law_809 dL_law_810 dL_law_811 dL_law_812 ?_
  refine zw_callVi (As := [.int (xs (i + 1)), .int (xs (i + 2))]) (rest := []) C (m_X8_fewest l E 0 (xs (i + 1)) (xs (i + 2)) zw_k0 M) h1 (cwV 2 C.1.2.2.2.2 gL_law_X8_fewest rfl rfl rfl hdW_X8_fewest ⟨Nat.le_of_ble_eq_true rfl, Nat.le_of_ble_eq_true rfl⟩) (zz_lt zw_k0 (by decide)) (zz_c8 zw_k0) rfl rfl hl.1 rfl (Nat.le_of_ble_eq_true rfl) dL_law_813 (Nat.le_of_ble_eq_true rfl) (Nat.le_of_ble_eq_true rfl) ?_
  refine zw_step (fun H locs k => lv_aload_n C.1.1 C.1.2.1 dL_law_816 rfl (lv_at hl 2 rfl) k) ?_
  refine zw_arg (k := 1) (p0 := 0) (p3 := 3) C hX hbl hE hl rfl rfl hx3 (by omega) (by omega) (by decide) dL_law_817 dL_law_818 dL_law_819 dL_law_820 dL_law_821 ?_
  refine zw_arg (k := 2) (p0 := 0) (p3 := 3) C hX hbl hE hl rfl rfl hx3 (by omega) (by omega) (by decide) dL_law_822 dL_law_823 dL_law_824 dL_law_825 dL_law_826 ?_
  refine zw_callVi (As := [.int (xs (i + 1)), .int (xs (i + 2))]) (rest := [.int r]) C (m_X9_fewest l E 129 (xs (i + 1)) (xs (i + 2)) zw_k129 M1) h2 (cwV 2 C.1.2.2.2.2 gL_law_X9_fewest rfl rfl rfl hdW_X9_fewest ⟨Nat.le_of_ble_eq_true rfl, Nat.le_of_ble_eq_true rfl⟩) (zz_lt zw_k129 (by decide)) (zz_c9 zw_k129) rfl rfl hl.1 rfl (Nat.le_of_ble_eq_true rfl) dL_law_827 (Nat.le_of_ble_eq_true rfl) (Nat.le_of_ble_eq_true rfl) ?_
  refine zw_step (fun H locs k => lv_icmp_eq (tgt := 1499) C.1.1 C.1.2.1 dL_law_830 (by decide) (fun _ => k) (fun h => absurd rfl h)) ?_
  exact kk M2 h3
set_option maxRecDepth 100000 in
set_option maxHeartbeats 4000000 in
theorem zw_case_ith {p : Program} {l : Launch} {e : Env} {s : State} {m : MethodId} {below : List Frame} {meth : Method} {c : Code} {b L : Nat} {xs : Nat → Int32} {E : zz_E} (C : zz_C E RL code 4 wsL_law p s m #[Value.ref b] meth c) (hX : va_X b L xs s s.heap) (hbl : b < s.heap.size) (hE : E.1 = s.heap.size) (hL : L ≤ 3072) {Inv : zz_M → Prop} {M : zz_M} (hop : (∀ (x1 : Int32) (x2 : Int32) (x3 : Int32), zw_eq Inv (f_X8_ith 0 x1 x2 x3) (f_X9_ith 129 x1 x2 x3) M)) {i : Nat} {x3 : Int32} (hx3 : x3 = nI i) (hi : i + 6 ≤ L) {ls : Array Slot} (hl : lv_has ls 4 [(0, .ref b), (1, .ref (E.1 + 0)), (2, .ref (E.1 + 129)), (3, .int x3)]) (kk : ∀ M2 : zz_M, Inv M2 → zw_Z E p l e s m b below meth c 141 4382 M2 (F0 m 1499 ls [])) : zw_Z E p l e s m b below meth c 141 4382 M (F0 m 835 ls []) := by
  obtain ⟨r, M1, M2, h1, h2, h3⟩ := hop (xs (i + 1)) (xs (i + 2)) (xs (i + 3))
  refine zw_step (fun H locs k => lv_aload_n C.1.1 C.1.2.1 dL_law_835 rfl (lv_at hl 1 rfl) k) ?_
  refine zw_arg (k := 1) (p0 := 0) (p3 := 3) C hX hbl hE hl rfl rfl hx3 (by omega) (by omega) (by decide) dL_law_836 dL_law_837 dL_law_838 dL_law_839 dL_law_840 ?_
  refine zw_arg (k := 2) (p0 := 0) (p3 := 3) C hX hbl hE hl rfl rfl hx3 (by omega) (by omega) (by decide) dL_law_841 dL_law_842 dL_law_843 dL_law_844 dL_law_845 ?_
  refine zw_arg (k := 3) (p0 := 0) (p3 := 3) C hX hbl hE hl rfl rfl hx3 (by omega) (by omega) (by decide) dL_law_846 dL_law_847 dL_law_848 dL_law_849 dL_law_850 ?_
  refine zw_callVi (As := [.int (xs (i + 1)), .int (xs (i + 2)), .int (xs (i + 3))]) (rest := []) C (m_X8_ith l E 0 (xs (i + 1)) (xs (i + 2)) (xs (i + 3)) zw_k0 M) h1 (cwV 3 C.1.2.2.2.2 gL_law_X8_ith rfl rfl rfl hdW_X8_ith ⟨Nat.le_of_ble_eq_true rfl, Nat.le_of_ble_eq_true rfl⟩) (zz_lt zw_k0 (by decide)) (zz_c8 zw_k0) rfl rfl hl.1 rfl (Nat.le_of_ble_eq_true rfl) dL_law_851 (Nat.le_of_ble_eq_true rfl) (Nat.le_of_ble_eq_true rfl) ?_
  refine zw_step (fun H locs k => lv_aload_n C.1.1 C.1.2.1 dL_law_854 rfl (lv_at hl 2 rfl) k) ?_
  refine zw_arg (k := 1) (p0 := 0) (p3 := 3) C hX hbl hE hl rfl rfl hx3 (by omega) (by omega) (by decide) dL_law_855 dL_law_856 dL_law_857 dL_law_858 dL_law_859 ?_
  refine zw_arg (k := 2) (p0 := 0) (p3 := 3) C hX hbl hE hl rfl rfl hx3 (by omega) (by omega) (by decide) dL_law_860 dL_law_861 dL_law_862 dL_law_863 dL_law_864 ?_
  refine zw_arg (k := 3) (p0 := 0) (p3 := 3) C hX hbl hE hl rfl rfl hx3 (by omega) (by omega) (by decide) dL_law_865 dL_law_866 dL_law_867 dL_law_868 dL_law_869 ?_
  refine zw_callVi (As := [.int (xs (i + 1)), .int (xs (i + 2)), .int (xs (i + 3))]) (rest := [.int r]) C (m_X9_ith l E 129 (xs (i + 1)) (xs (i + 2)) (xs (i + 3)) zw_k129 M1) h2 (cwV 3 C.1.2.2.2.2 gL_law_X9_ith rfl rfl rfl hdW_X9_ith ⟨Nat.le_of_ble_eq_true rfl, Nat.le_of_ble_eq_true rfl⟩) (zz_lt zw_k129 (by decide)) (zz_c9 zw_k129) rfl rfl hl.1 rfl (Nat.le_of_ble_eq_true rfl) dL_law_870 (Nat.le_of_ble_eq_true rfl) (Nat.le_of_ble_eq_true rfl) ?_
  refine zw_step (fun H locs k => lv_icmp_eq (tgt := 1499) C.1.1 C.1.2.1 dL_law_873 (by decide) (fun _ => k) (fun h => absurd rfl h)) ?_
  exact kk M2 h3
set_option maxRecDepth 100000 in
set_option maxHeartbeats 4000000 in
theorem zw_case_ways {p : Program} {l : Launch} {e : Env} {s : State} {m : MethodId} {below : List Frame} {meth : Method} {c : Code} {b L : Nat} {xs : Nat → Int32} {E : zz_E} (C : zz_C E RL code 4 wsL_law p s m #[Value.ref b] meth c) (hX : va_X b L xs s s.heap) (hbl : b < s.heap.size) (hE : E.1 = s.heap.size) (hL : L ≤ 3072) {Inv : zz_M → Prop} {M : zz_M} (hop : (∀ (x1 : Int32) (x2 : Int32) (x3 : Int32), zw_eq Inv (f_X8_ways 0 x1 x2 x3) (f_X9_ways 129 x1 x2 x3) M)) {i : Nat} {x3 : Int32} (hx3 : x3 = nI i) (hi : i + 6 ≤ L) {ls : Array Slot} (hl : lv_has ls 4 [(0, .ref b), (1, .ref (E.1 + 0)), (2, .ref (E.1 + 129)), (3, .int x3)]) (kk : ∀ M2 : zz_M, Inv M2 → zw_Z E p l e s m b below meth c 141 4382 M2 (F0 m 1499 ls [])) : zw_Z E p l e s m b below meth c 141 4382 M (F0 m 878 ls []) := by
  obtain ⟨r, M1, M2, h1, h2, h3⟩ := hop (xs (i + 1)) (xs (i + 2)) (xs (i + 3))
  refine zw_step (fun H locs k => lv_aload_n C.1.1 C.1.2.1 dL_law_878 rfl (lv_at hl 1 rfl) k) ?_
  refine zw_arg (k := 1) (p0 := 0) (p3 := 3) C hX hbl hE hl rfl rfl hx3 (by omega) (by omega) (by decide) dL_law_879 dL_law_880 dL_law_881 dL_law_882 dL_law_883 ?_
  refine zw_arg (k := 2) (p0 := 0) (p3 := 3) C hX hbl hE hl rfl rfl hx3 (by omega) (by omega) (by decide) dL_law_884 dL_law_885 dL_law_886 dL_law_887 dL_law_888 ?_
  refine zw_arg (k := 3) (p0 := 0) (p3 := 3) C hX hbl hE hl rfl rfl hx3 (by omega) (by omega) (by decide) dL_law_889 dL_law_890 dL_law_891 dL_law_892 dL_law_893 ?_
  refine zw_callVi (As := [.int (xs (i + 1)), .int (xs (i + 2)), .int (xs (i + 3))]) (rest := []) C (m_X8_ways l E 0 (xs (i + 1)) (xs (i + 2)) (xs (i + 3)) zw_k0 M) h1 (cwV 3 C.1.2.2.2.2 gL_law_X8_ways rfl rfl rfl hdW_X8_ways ⟨Nat.le_of_ble_eq_true rfl, Nat.le_of_ble_eq_true rfl⟩) (zz_lt zw_k0 (by decide)) (zz_c8 zw_k0) rfl rfl hl.1 rfl (Nat.le_of_ble_eq_true rfl) dL_law_894 (Nat.le_of_ble_eq_true rfl) (Nat.le_of_ble_eq_true rfl) ?_
  refine zw_step (fun H locs k => lv_aload_n C.1.1 C.1.2.1 dL_law_897 rfl (lv_at hl 2 rfl) k) ?_
  refine zw_arg (k := 1) (p0 := 0) (p3 := 3) C hX hbl hE hl rfl rfl hx3 (by omega) (by omega) (by decide) dL_law_898 dL_law_899 dL_law_900 dL_law_901 dL_law_902 ?_
  refine zw_arg (k := 2) (p0 := 0) (p3 := 3) C hX hbl hE hl rfl rfl hx3 (by omega) (by omega) (by decide) dL_law_903 dL_law_904 dL_law_905 dL_law_906 dL_law_907 ?_
  refine zw_arg (k := 3) (p0 := 0) (p3 := 3) C hX hbl hE hl rfl rfl hx3 (by omega) (by omega) (by decide) dL_law_908 dL_law_909 dL_law_910 dL_law_911 dL_law_912 ?_
  refine zw_callVi (As := [.int (xs (i + 1)), .int (xs (i + 2)), .int (xs (i + 3))]) (rest := [.int r]) C (m_X9_ways l E 129 (xs (i + 1)) (xs (i + 2)) (xs (i + 3)) zw_k129 M1) h2 (cwV 3 C.1.2.2.2.2 gL_law_X9_ways rfl rfl rfl hdW_X9_ways ⟨Nat.le_of_ble_eq_true rfl, Nat.le_of_ble_eq_true rfl⟩) (zz_lt zw_k129 (by decide)) (zz_c9 zw_k129) rfl rfl hl.1 rfl (Nat.le_of_ble_eq_true rfl) dL_law_913 (Nat.le_of_ble_eq_true rfl) (Nat.le_of_ble_eq_true rfl) ?_
  refine zw_step (fun H locs k => lv_icmp_eq (tgt := 1499) C.1.1 C.1.2.1 dL_law_916 (by decide) (fun _ => k) (fun h => absurd rfl h)) ?_
  exact kk M2 h3
set_option maxRecDepth 100000 in
set_option maxHeartbeats 4000000 in
theorem zw_case_most {p : Program} {l : Launch} {e : Env} {s : State} {m : MethodId} {below : List Frame} {meth : Method} {c : Code} {b L : Nat} {xs : Nat → Int32} {E : zz_E} (C : zz_C E RL code 4 wsL_law p s m #[Value.ref b] meth c) (hX : va_X b L xs s s.heap) (hbl : b < s.heap.size) (hE : E.1 = s.heap.size) (hL : L ≤ 3072) {Inv : zz_M → Prop} {M : zz_M} (hop : (∀ (x1 : Int32) (x2 : Int32), zw_eq Inv (f_X8_most 0 x1 x2) (f_X9_most 129 x1 x2) M)) {i : Nat} {x3 : Int32} (hx3 : x3 = nI i) (hi : i + 6 ≤ L) {ls : Array Slot} (hl : lv_has ls 4 [(0, .ref b), (1, .ref (E.1 + 0)), (2, .ref (E.1 + 129)), (3, .int x3)]) (kk : ∀ M2 : zz_M, Inv M2 → zw_Z E p l e s m b below meth c 141 4382 M2 (F0 m 1499 ls [])) : zw_Z E p l e s m b below meth c 141 4382 M (F0 m 921 ls []) := by
  obtain ⟨r, M1, M2, h1, h2, h3⟩ := hop (xs (i + 1)) (xs (i + 2))
  refine zw_step (fun H locs k => lv_aload_n C.1.1 C.1.2.1 dL_law_921 rfl (lv_at hl 1 rfl) k) ?_
  refine zw_arg (k := 1) (p0 := 0) (p3 := 3) C hX hbl hE hl rfl rfl hx3 (by omega) (by omega) (by decide) dL_law_922 dL_law_923 dL_law_924 dL_law_925 dL_law_926 ?_
  refine zw_arg (k := 2) (p0 := 0) (p3 := 3) C hX hbl hE hl rfl rfl hx3 (by omega) (by omega) (by decide) dL_law_927 dL_law_928 dL_law_929 dL_law_930 dL_law_931 ?_
  refine zw_callVi (As := [.int (xs (i + 1)), .int (xs (i + 2))]) (rest := []) C (m_X8_most l E 0 (xs (i + 1)) (xs (i + 2)) zw_k0 M) h1 (cwV 2 C.1.2.2.2.2 gL_law_X8_most rfl rfl rfl hdW_X8_most ⟨Nat.le_of_ble_eq_true rfl, Nat.le_of_ble_eq_true rfl⟩) (zz_lt zw_k0 (by decide)) (zz_c8 zw_k0) rfl rfl hl.1 rfl (Nat.le_of_ble_eq_true rfl) dL_law_932 (Nat.le_of_ble_eq_true rfl) (Nat.le_of_ble_eq_true rfl) ?_
  refine zw_step (fun H locs k => lv_aload_n C.1.1 C.1.2.1 dL_law_935 rfl (lv_at hl 2 rfl) k) ?_
  refine zw_arg (k := 1) (p0 := 0) (p3 := 3) C hX hbl hE hl rfl rfl hx3 (by omega) (by omega) (by decide) dL_law_936 dL_law_937 dL_law_938 dL_law_939 dL_law_940 ?_
  refine zw_arg (k := 2) (p0 := 0) (p3 := 3) C hX hbl hE hl rfl rfl hx3 (by omega) (by omega) (by decide) dL_law_941 dL_law_942 dL_law_943 dL_law_944 dL_law_945 ?_
  refine zw_callVi (As := [.int (xs (i + 1)), .int (xs (i + 2))]) (rest := [.int r]) C (m_X9_most l E 129 (xs (i + 1)) (xs (i + 2)) zw_k129 M1) h2 (cwV 2 C.1.2.2.2.2 gL_law_X9_most rfl rfl rfl hdW_X9_most ⟨Nat.le_of_ble_eq_true rfl, Nat.le_of_ble_eq_true rfl⟩) (zz_lt zw_k129 (by decide)) (zz_c9 zw_k129) rfl rfl hl.1 rfl (Nat.le_of_ble_eq_true rfl) dL_law_946 (Nat.le_of_ble_eq_true rfl) (Nat.le_of_ble_eq_true rfl) ?_
  refine zw_step (fun H locs k => lv_icmp_eq (tgt := 1499) C.1.1 C.1.2.1 dL_law_949 (by decide) (fun _ => k) (fun h => absurd rfl h)) ?_
  exact kk M2 h3
set_option maxRecDepth 100000 in
set_option maxHeartbeats 4000000 in
theorem zw_case_best {p : Program} {l : Launch} {e : Env} {s : State} {m : MethodId} {below : List Frame} {meth : Method} {c : Code} {b L : Nat} {xs : Nat → Int32} {E : zz_E} (C : zz_C E RL code 4 wsL_law p s m #[Value.ref b] meth c) (hX : va_X b L xs s s.heap) (hbl : b < s.heap.size) (hE : E.1 = s.heap.size) (hL : L ≤ 3072) {Inv : zz_M → Prop} {M : zz_M} (hop : (∀ (x1 : Int32), zw_eq Inv (f_X8_best 0 x1) (f_X9_best 129 x1) M)) {i : Nat} {x3 : Int32} (hx3 : x3 = nI i) (hi : i + 6 ≤ L) {ls : Array Slot} (hl : lv_has ls 4 [(0, .ref b), (1, .ref (E.1 + 0)), (2, .ref (E.1 + 129)), (3, .int x3)]) (kk : ∀ M2 : zz_M, Inv M2 → zw_Z E p l e s m b below meth c 141 4382 M2 (F0 m 1499 ls [])) : zw_Z E p l e s m b below meth c 141 4382 M (F0 m 954 ls []) := by
  obtain ⟨r, M1, M2, h1, h2, h3⟩ := hop (xs (i + 1))
  refine zw_step (fun H locs k => lv_aload_n C.1.1 C.1.2.1 dL_law_954 rfl (lv_at hl 1 rfl) k) ?_
  refine zw_arg (k := 1) (p0 := 0) (p3 := 3) C hX hbl hE hl rfl rfl hx3 (by omega) (by omega) (by decide) dL_law_955 dL_law_956 dL_law_957 dL_law_958 dL_law_959 ?_
  refine zw_callVi (As := [.int (xs (i + 1))]) (rest := []) C (m_X8_best l E 0 (xs (i + 1)) zw_k0 M) h1 (cwV 1 C.1.2.2.2.2 gL_law_X8_best rfl rfl rfl hdW_X8_best ⟨Nat.le_of_ble_eq_true rfl, Nat.le_of_ble_eq_true rfl⟩) (zz_lt zw_k0 (by decide)) (zz_c8 zw_k0) rfl rfl hl.1 rfl (Nat.le_of_ble_eq_true rfl) dL_law_960 (Nat.le_of_ble_eq_true rfl) (Nat.le_of_ble_eq_true rfl) ?_
  refine zw_step (fun H locs k => lv_aload_n C.1.1 C.1.2.1 dL_law_963 rfl (lv_at hl 2 rfl) k) ?_
  refine zw_arg (k := 1) (p0 := 0) (p3 := 3) C hX hbl hE hl rfl rfl hx3 (by omega) (by omega) (by decide) dL_law_964 dL_law_965 dL_law_966 dL_law_967 dL_law_968 ?_
  refine zw_callVi (As := [.int (xs (i + 1))]) (rest := [.int r]) C (m_X9_best l E 129 (xs (i + 1)) zw_k129 M1) h2 (cwV 1 C.1.2.2.2.2 gL_law_X9_best rfl rfl rfl hdW_X9_best ⟨Nat.le_of_ble_eq_true rfl, Nat.le_of_ble_eq_true rfl⟩) (zz_lt zw_k129 (by decide)) (zz_c9 zw_k129) rfl rfl hl.1 rfl (Nat.le_of_ble_eq_true rfl) dL_law_969 (Nat.le_of_ble_eq_true rfl) (Nat.le_of_ble_eq_true rfl) ?_
  refine zw_step (fun H locs k => lv_icmp_eq (tgt := 1499) C.1.1 C.1.2.1 dL_law_972 (by decide) (fun _ => k) (fun h => absurd rfl h)) ?_
  exact kk M2 h3
set_option maxRecDepth 100000 in
set_option maxHeartbeats 4000000 in
theorem zw_case_kind {p : Program} {l : Launch} {e : Env} {s : State} {m : MethodId} {below : List Frame} {meth : Method} {c : Code} {b L : Nat} {xs : Nat → Int32} {E : zz_E} (C : zz_C E RL code 4 wsL_law p s m #[Value.ref b] meth c) (hX : va_X b L xs s s.heap) (hbl : b < s.heap.size) (hE : E.1 = s.heap.size) (hL : L ≤ 3072) {Inv : zz_M → Prop} {M : zz_M} (hop : (∀ (x1 : Int32) (x2 : Int32) (x3 : Int32), zw_eq Inv (f_X8_kind 0 x1 x2 x3) (f_X9_kind 129 x1 x2 x3) M)) {i : Nat} {x3 : Int32} (hx3 : x3 = nI i) (hi : i + 6 ≤ L) {ls : Array Slot} (hl : lv_has ls 4 [(0, .ref b), (1, .ref (E.1 + 0)), (2, .ref (E.1 + 129)), (3, .int x3)]) (kk : ∀ M2 : zz_M, Inv M2 → zw_Z E p l e s m b below meth c 141 4382 M2 (F0 m 1499 ls [])) : zw_Z E p l e s m b below meth c 141 4382 M (F0 m 977 ls []) := by
  obtain ⟨r, M1, M2, h1, h2, h3⟩ := hop (xs (i + 1)) (xs (i + 2)) (xs (i + 3))
  refine zw_step (fun H locs k => lv_aload_n C.1.1 C.1.2.1 dL_law_977 rfl (lv_at hl 1 rfl) k) ?_
  refine zw_arg (k := 1) (p0 := 0) (p3 := 3) C hX hbl hE hl rfl rfl hx3 (by omega) (by omega) (by decide) dL_law_978 dL_law_979 dL_law_980 dL_law_981 dL_law_982 ?_
  refine zw_arg (k := 2) (p0 := 0) (p3 := 3) C hX hbl hE hl rfl rfl hx3 (by omega) (by omega) (by decide) dL_law_983 dL_law_984 dL_law_985 dL_law_986 dL_law_987 ?_
  refine zw_arg (k := 3) (p0 := 0) (p3 := 3) C hX hbl hE hl rfl rfl hx3 (by omega) (by omega) (by decide) dL_law_988 dL_law_989 dL_law_990 dL_law_991 dL_law_992 ?_
  refine zw_callVi (As := [.int (xs (i + 1)), .int (xs (i + 2)), .int (xs (i + 3))]) (rest := []) C (m_X8_kind l E 0 (xs (i + 1)) (xs (i + 2)) (xs (i + 3)) zw_k0 M) h1 (cwV 3 C.1.2.2.2.2 gL_law_X8_kind rfl rfl rfl hdW_X8_kind ⟨Nat.le_of_ble_eq_true rfl, Nat.le_of_ble_eq_true rfl⟩) (zz_lt zw_k0 (by decide)) (zz_c8 zw_k0) rfl rfl hl.1 rfl (Nat.le_of_ble_eq_true rfl) dL_law_993 (Nat.le_of_ble_eq_true rfl) (Nat.le_of_ble_eq_true rfl) ?_
  refine zw_step (fun H locs k => lv_aload_n C.1.1 C.1.2.1 dL_law_996 rfl (lv_at hl 2 rfl) k) ?_
  refine zw_arg (k := 1) (p0 := 0) (p3 := 3) C hX hbl hE hl rfl rfl hx3 (by omega) (by omega) (by decide) dL_law_997 dL_law_998 dL_law_999 dL_law_1000 dL_law_1001 ?_
  refine zw_arg (k := 2) (p0 := 0) (p3 := 3) C hX hbl hE hl rfl rfl hx3 (by omega) (by omega) (by decide) dL_law_1002 dL_law_1003 dL_law_1004 dL_law_1005 dL_law_1006 ?_
  refine zw_arg (k := 3) (p0 := 0) (p3 := 3) C hX hbl hE hl rfl rfl hx3 (by omega) (by omega) (by decide) dL_law_1007 dL_law_1008 dL_law_1009 dL_law_1010 dL_law_1011 ?_
  refine zw_callVi (As := [.int (xs (i + 1)), .int (xs (i + 2)), .int (xs (i + 3))]) (rest := [.int r]) C (m_X9_kind l E 129 (xs (i + 1)) (xs (i + 2)) (xs (i + 3)) zw_k129 M1) h2 (cwV 3 C.1.2.2.2.2 gL_law_X9_kind rfl rfl rfl hdW_X9_kind ⟨Nat.le_of_ble_eq_true rfl, Nat.le_of_ble_eq_true rfl⟩) (zz_lt zw_k129 (by decide)) (zz_c9 zw_k129) rfl rfl hl.1 rfl (Nat.le_of_ble_eq_true rfl) dL_law_1012 (Nat.le_of_ble_eq_true rfl) (Nat.le_of_ble_eq_true rfl) ?_
  refine zw_step (fun H locs k => lv_icmp_eq (tgt := 1499) C.1.1 C.1.2.1 dL_law_1015 (by decide) (fun _ => k) (fun h => absurd rfl h)) ?_
  exact kk M2 h3
set_option maxRecDepth 100000 in
set_option maxHeartbeats 4000000 in
theorem zw_case_fires {p : Program} {l : Launch} {e : Env} {s : State} {m : MethodId} {below : List Frame} {meth : Method} {c : Code} {b L : Nat} {xs : Nat → Int32} {E : zz_E} (C : zz_C E RL code 4 wsL_law p s m #[Value.ref b] meth c) (hX : va_X b L xs s s.heap) (hbl : b < s.heap.size) (hE : E.1 = s.heap.size) (hL : L ≤ 3072) {Inv : zz_M → Prop} {M : zz_M} (hop : (∀ (x1 : Int32) (x2 : Int32), zw_eq Inv (f_X8_fires 0 x1 x2) (f_X9_fires 129 x1 x2) M)) {i : Nat} {x3 : Int32} (hx3 : x3 = nI i) (hi : i + 6 ≤ L) {ls : Array Slot} (hl : lv_has ls 4 [(0, .ref b), (1, .ref (E.1 + 0)), (2, .ref (E.1 + 129)), (3, .int x3)]) (kk : ∀ M2 : zz_M, Inv M2 → zw_Z E p l e s m b below meth c 141 4382 M2 (F0 m 1499 ls [])) : zw_Z E p l e s m b below meth c 141 4382 M (F0 m 1020 ls []) := by
  obtain ⟨r, M1, M2, h1, h2, h3⟩ := hop (xs (i + 1)) (xs (i + 2))
  refine zw_step (fun H locs k => lv_aload_n C.1.1 C.1.2.1 dL_law_1020 rfl (lv_at hl 1 rfl) k) ?_
  refine zw_arg (k := 1) (p0 := 0) (p3 := 3) C hX hbl hE hl rfl rfl hx3 (by omega) (by omega) (by decide) dL_law_1021 dL_law_1022 dL_law_1023 dL_law_1024 dL_law_1025 ?_
  refine zw_arg (k := 2) (p0 := 0) (p3 := 3) C hX hbl hE hl rfl rfl hx3 (by omega) (by omega) (by decide) dL_law_1026 dL_law_1027 dL_law_1028 dL_law_1029 dL_law_1030 ?_
  refine zw_callVi (As := [.int (xs (i + 1)), .int (xs (i + 2))]) (rest := []) C (m_X8_fires l E 0 (xs (i + 1)) (xs (i + 2)) zw_k0 M) h1 (cwV 2 C.1.2.2.2.2 gL_law_X8_fires rfl rfl rfl hdW_X8_fires ⟨Nat.le_of_ble_eq_true rfl, Nat.le_of_ble_eq_true rfl⟩) (zz_lt zw_k0 (by decide)) (zz_c8 zw_k0) rfl rfl hl.1 rfl (Nat.le_of_ble_eq_true rfl) dL_law_1031 (Nat.le_of_ble_eq_true rfl) (Nat.le_of_ble_eq_true rfl) ?_
  refine zw_step (fun H locs k => lv_aload_n C.1.1 C.1.2.1 dL_law_1034 rfl (lv_at hl 2 rfl) k) ?_
  refine zw_arg (k := 1) (p0 := 0) (p3 := 3) C hX hbl hE hl rfl rfl hx3 (by omega) (by omega) (by decide) dL_law_1035 dL_law_1036 dL_law_1037 dL_law_1038 dL_law_1039 ?_
  refine zw_arg (k := 2) (p0 := 0) (p3 := 3) C hX hbl hE hl rfl rfl hx3 (by omega) (by omega) (by decide) dL_law_1040 dL_law_1041 dL_law_1042 dL_law_1043 dL_law_1044 ?_
  refine zw_callVi (As := [.int (xs (i + 1)), .int (xs (i + 2))]) (rest := [.int r]) C (m_X9_fires l E 129 (xs (i + 1)) (xs (i + 2)) zw_k129 M1) h2 (cwV 2 C.1.2.2.2.2 gL_law_X9_fires rfl rfl rfl hdW_X9_fires ⟨Nat.le_of_ble_eq_true rfl, Nat.le_of_ble_eq_true rfl⟩) (zz_lt zw_k129 (by decide)) (zz_c9 zw_k129) rfl rfl hl.1 rfl (Nat.le_of_ble_eq_true rfl) dL_law_1045 (Nat.le_of_ble_eq_true rfl) (Nat.le_of_ble_eq_true rfl) ?_
  refine zw_step (fun H locs k => lv_icmp_eq (tgt := 1499) C.1.1 C.1.2.1 dL_law_1048 (by decide) (fun _ => k) (fun h => absurd rfl h)) ?_
  exact kk M2 h3
set_option maxRecDepth 100000 in
set_option maxHeartbeats 4000000 in
theorem zw_case_enough {p : Program} {l : Launch} {e : Env} {s : State} {m : MethodId} {below : List Frame} {meth : Method} {c : Code} {b L : Nat} {xs : Nat → Int32} {E : zz_E} (C : zz_C E RL code 4 wsL_law p s m #[Value.ref b] meth c) (hX : va_X b L xs s s.heap) (hbl : b < s.heap.size) (hE : E.1 = s.heap.size) (hL : L ≤ 3072) {Inv : zz_M → Prop} {M : zz_M} (hop : (∀ (x1 : Int32), zw_eq Inv (f_X8_enough 0 x1) (f_X9_enough 129 x1) M)) {i : Nat} {x3 : Int32} (hx3 : x3 = nI i) (hi : i + 6 ≤ L) {ls : Array Slot} (hl : lv_has ls 4 [(0, .ref b), (1, .ref (E.1 + 0)), (2, .ref (E.1 + 129)), (3, .int x3)]) (kk : ∀ M2 : zz_M, Inv M2 → zw_Z E p l e s m b below meth c 141 4382 M2 (F0 m 1499 ls [])) : zw_Z E p l e s m b below meth c 141 4382 M (F0 m 1053 ls []) := by
  obtain ⟨r, M1, M2, h1, h2, h3⟩ := hop (xs (i + 1))
  refine zw_step (fun H locs k => lv_aload_n C.1.1 C.1.2.1 dL_law_1053 rfl (lv_at hl 1 rfl) k) ?_
  refine zw_arg (k := 1) (p0 := 0) (p3 := 3) C hX hbl hE hl rfl rfl hx3 (by omega) (by omega) (by decide) dL_law_1054 dL_law_1055 dL_law_1056 dL_law_1057 dL_law_1058 ?_
  refine zw_callVi (As := [.int (xs (i + 1))]) (rest := []) C (m_X8_enough l E 0 (xs (i + 1)) zw_k0 M) h1 (cwV 1 C.1.2.2.2.2 gL_law_X8_enough rfl rfl rfl hdW_X8_enough ⟨Nat.le_of_ble_eq_true rfl, Nat.le_of_ble_eq_true rfl⟩) (zz_lt zw_k0 (by decide)) (zz_c8 zw_k0) rfl rfl hl.1 rfl (Nat.le_of_ble_eq_true rfl) dL_law_1059 (Nat.le_of_ble_eq_true rfl) (Nat.le_of_ble_eq_true rfl) ?_
  refine zw_step (fun H locs k => lv_aload_n C.1.1 C.1.2.1 dL_law_1062 rfl (lv_at hl 2 rfl) k) ?_
  refine zw_arg (k := 1) (p0 := 0) (p3 := 3) C hX hbl hE hl rfl rfl hx3 (by omega) (by omega) (by decide) dL_law_1063 dL_law_1064 dL_law_1065 dL_law_1066 dL_law_1067 ?_
  refine zw_callVi (As := [.int (xs (i + 1))]) (rest := [.int r]) C (m_X9_enough l E 129 (xs (i + 1)) zw_k129 M1) h2 (cwV 1 C.1.2.2.2.2 gL_law_X9_enough rfl rfl rfl hdW_X9_enough ⟨Nat.le_of_ble_eq_true rfl, Nat.le_of_ble_eq_true rfl⟩) (zz_lt zw_k129 (by decide)) (zz_c9 zw_k129) rfl rfl hl.1 rfl (Nat.le_of_ble_eq_true rfl) dL_law_1068 (Nat.le_of_ble_eq_true rfl) (Nat.le_of_ble_eq_true rfl) ?_
  refine zw_step (fun H locs k => lv_icmp_eq (tgt := 1499) C.1.1 C.1.2.1 dL_law_1071 (by decide) (fun _ => k) (fun h => absurd rfl h)) ?_
  exact kk M2 h3
set_option maxRecDepth 100000 in
set_option maxHeartbeats 4000000 in
theorem zw_case_feed {p : Program} {l : Launch} {e : Env} {s : State} {m : MethodId} {below : List Frame} {meth : Method} {c : Code} {b L : Nat} {xs : Nat → Int32} {E : zz_E} (C : zz_C E RL code 4 wsL_law p s m #[Value.ref b] meth c) (hX : va_X b L xs s s.heap) (hbl : b < s.heap.size) (hE : E.1 = s.heap.size) (hL : L ≤ 3072) {Inv : zz_M → Prop} {M : zz_M} (hop : (∀ (x1 : Int32) (x2 : Int32), zw_eq Inv (f_X8_feed 0 x1 x2) (f_X9_feed 129 x1 x2) M)) {i : Nat} {x3 : Int32} (hx3 : x3 = nI i) (hi : i + 6 ≤ L) {ls : Array Slot} (hl : lv_has ls 4 [(0, .ref b), (1, .ref (E.1 + 0)), (2, .ref (E.1 + 129)), (3, .int x3)]) (kk : ∀ M2 : zz_M, Inv M2 → zw_Z E p l e s m b below meth c 141 4382 M2 (F0 m 1499 ls [])) : zw_Z E p l e s m b below meth c 141 4382 M (F0 m 1076 ls []) := by
  obtain ⟨r, M1, M2, h1, h2, h3⟩ := hop (xs (i + 1)) (xs (i + 2))
  refine zw_step (fun H locs k => lv_aload_n C.1.1 C.1.2.1 dL_law_1076 rfl (lv_at hl 1 rfl) k) ?_
  refine zw_arg (k := 1) (p0 := 0) (p3 := 3) C hX hbl hE hl rfl rfl hx3 (by omega) (by omega) (by decide) dL_law_1077 dL_law_1078 dL_law_1079 dL_law_1080 dL_law_1081 ?_
  refine zw_arg (k := 2) (p0 := 0) (p3 := 3) C hX hbl hE hl rfl rfl hx3 (by omega) (by omega) (by decide) dL_law_1082 dL_law_1083 dL_law_1084 dL_law_1085 dL_law_1086 ?_
  refine zw_callVi (As := [.int (xs (i + 1)), .int (xs (i + 2))]) (rest := []) C (m_X8_feed l E 0 (xs (i + 1)) (xs (i + 2)) zw_k0 M) h1 (cwV 2 C.1.2.2.2.2 gL_law_X8_feed rfl rfl rfl hdW_X8_feed ⟨Nat.le_of_ble_eq_true rfl, Nat.le_of_ble_eq_true rfl⟩) (zz_lt zw_k0 (by decide)) (zz_c8 zw_k0) rfl rfl hl.1 rfl (Nat.le_of_ble_eq_true rfl) dL_law_1087 (Nat.le_of_ble_eq_true rfl) (Nat.le_of_ble_eq_true rfl) ?_
  refine zw_step (fun H locs k => lv_aload_n C.1.1 C.1.2.1 dL_law_1090 rfl (lv_at hl 2 rfl) k) ?_
  refine zw_arg (k := 1) (p0 := 0) (p3 := 3) C hX hbl hE hl rfl rfl hx3 (by omega) (by omega) (by decide) dL_law_1091 dL_law_1092 dL_law_1093 dL_law_1094 dL_law_1095 ?_
  refine zw_arg (k := 2) (p0 := 0) (p3 := 3) C hX hbl hE hl rfl rfl hx3 (by omega) (by omega) (by decide) dL_law_1096 dL_law_1097 dL_law_1098 dL_law_1099 dL_law_1100 ?_
  refine zw_callVi (As := [.int (xs (i + 1)), .int (xs (i + 2))]) (rest := [.int r]) C (m_X9_feed l E 129 (xs (i + 1)) (xs (i + 2)) zw_k129 M1) h2 (cwV 2 C.1.2.2.2.2 gL_law_X9_feed rfl rfl rfl hdW_X9_feed ⟨Nat.le_of_ble_eq_true rfl, Nat.le_of_ble_eq_true rfl⟩) (zz_lt zw_k129 (by decide)) (zz_c9 zw_k129) rfl rfl hl.1 rfl (Nat.le_of_ble_eq_true rfl) dL_law_1101 (Nat.le_of_ble_eq_true rfl) (Nat.le_of_ble_eq_true rfl) ?_
  refine zw_step (fun H locs k => lv_icmp_eq (tgt := 1499) C.1.1 C.1.2.1 dL_law_1104 (by decide) (fun _ => k) (fun h => absurd rfl h)) ?_
  exact kk M2 h3
set_option maxRecDepth 100000 in
set_option maxHeartbeats 4000000 in
theorem zw_case_wipe {p : Program} {l : Launch} {e : Env} {s : State} {m : MethodId} {below : List Frame} {meth : Method} {c : Code} {b L : Nat} {xs : Nat → Int32} {E : zz_E} (C : zz_C E RL code 4 wsL_law p s m #[Value.ref b] meth c) (hX : va_X b L xs s s.heap) (hbl : b < s.heap.size) (hE : E.1 = s.heap.size) (hL : L ≤ 3072) {Inv : zz_M → Prop} {M : zz_M} (hop : (zw_eq Inv (f_X8_wipe 0) (f_X9_wipe 129) M)) {i : Nat} {x3 : Int32} (hx3 : x3 = nI i) (hi : i + 6 ≤ L) {ls : Array Slot} (hl : lv_has ls 4 [(0, .ref b), (1, .ref (E.1 + 0)), (2, .ref (E.1 + 129)), (3, .int x3)]) (kk : ∀ M2 : zz_M, Inv M2 → zw_Z E p l e s m b below meth c 141 4382 M2 (F0 m 1499 ls [])) : zw_Z E p l e s m b below meth c 141 4382 M (F0 m 1109 ls []) := by
  obtain ⟨r, M1, M2, h1, h2, h3⟩ := hop
  refine zw_step (fun H locs k => lv_aload_n C.1.1 C.1.2.1 dL_law_1109 rfl (lv_at hl 1 rfl) k) ?_
  refine zw_callVi (As := []) (rest := []) C (m_X8_wipe l E 0  zw_k0 M) h1 (cwV 0 C.1.2.2.2.2 gL_law_X8_wipe rfl rfl rfl hdW_X8_wipe ⟨Nat.le_of_ble_eq_true rfl, Nat.le_of_ble_eq_true rfl⟩) (zz_lt zw_k0 (by decide)) (zz_c8 zw_k0) rfl rfl hl.1 rfl (Nat.le_of_ble_eq_true rfl) dL_law_1110 (Nat.le_of_ble_eq_true rfl) (Nat.le_of_ble_eq_true rfl) ?_
  refine zw_step (fun H locs k => lv_aload_n C.1.1 C.1.2.1 dL_law_1113 rfl (lv_at hl 2 rfl) k) ?_
  refine zw_callVi (As := []) (rest := [.int r]) C (m_X9_wipe l E 129  zw_k129 M1) h2 (cwV 0 C.1.2.2.2.2 gL_law_X9_wipe rfl rfl rfl hdW_X9_wipe ⟨Nat.le_of_ble_eq_true rfl, Nat.le_of_ble_eq_true rfl⟩) (zz_lt zw_k129 (by decide)) (zz_c9 zw_k129) rfl rfl hl.1 rfl (Nat.le_of_ble_eq_true rfl) dL_law_1114 (Nat.le_of_ble_eq_true rfl) (Nat.le_of_ble_eq_true rfl) ?_
  refine zw_step (fun H locs k => lv_icmp_eq (tgt := 1499) C.1.1 C.1.2.1 dL_law_1117 (by decide) (fun _ => k) (fun h => absurd rfl h)) ?_
  exact kk M2 h3
set_option maxRecDepth 100000 in
set_option maxHeartbeats 4000000 in
theorem zw_case_text {p : Program} {l : Launch} {e : Env} {s : State} {m : MethodId} {below : List Frame} {meth : Method} {c : Code} {b L : Nat} {xs : Nat → Int32} {E : zz_E} (C : zz_C E RL code 4 wsL_law p s m #[Value.ref b] meth c) (hX : va_X b L xs s s.heap) (hbl : b < s.heap.size) (hE : E.1 = s.heap.size) (hL : L ≤ 3072) {Inv : zz_M → Prop} {M : zz_M} (hop : (zw_eq Inv (f_X8_text 0) (f_X9_text 129) M)) {i : Nat} {x3 : Int32} (hx3 : x3 = nI i) (hi : i + 6 ≤ L) {ls : Array Slot} (hl : lv_has ls 4 [(0, .ref b), (1, .ref (E.1 + 0)), (2, .ref (E.1 + 129)), (3, .int x3)]) (kk : ∀ M2 : zz_M, Inv M2 → zw_Z E p l e s m b below meth c 141 4382 M2 (F0 m 1499 ls [])) : zw_Z E p l e s m b below meth c 141 4382 M (F0 m 1122 ls []) := by
  obtain ⟨r, M1, M2, h1, h2, h3⟩ := hop
  refine zw_step (fun H locs k => lv_aload_n C.1.1 C.1.2.1 dL_law_1122 rfl (lv_at hl 1 rfl) k) ?_
  refine zw_callVi (As := []) (rest := []) C (m_X8_text l E 0  zw_k0 M) h1 (cwV 0 C.1.2.2.2.2 gL_law_X8_text rfl rfl rfl hdW_X8_text ⟨Nat.le_of_ble_eq_true rfl, Nat.le_of_ble_eq_true rfl⟩) (zz_lt zw_k0 (by decide)) (zz_c8 zw_k0) rfl rfl hl.1 rfl (Nat.le_of_ble_eq_true rfl) dL_law_1123 (Nat.le_of_ble_eq_true rfl) (Nat.le_of_ble_eq_true rfl) ?_
  refine zw_step (fun H locs k => lv_aload_n C.1.1 C.1.2.1 dL_law_1126 rfl (lv_at hl 2 rfl) k) ?_
  refine zw_callVi (As := []) (rest := [.int r]) C (m_X9_text l E 129  zw_k129 M1) h2 (cwV 0 C.1.2.2.2.2 gL_law_X9_text rfl rfl rfl hdW_X9_text ⟨Nat.le_of_ble_eq_true rfl, Nat.le_of_ble_eq_true rfl⟩) (zz_lt zw_k129 (by decide)) (zz_c9 zw_k129) rfl rfl hl.1 rfl (Nat.le_of_ble_eq_true rfl) dL_law_1127 (Nat.le_of_ble_eq_true rfl) (Nat.le_of_ble_eq_true rfl) ?_
  refine zw_step (fun H locs k => lv_icmp_eq (tgt := 1499) C.1.1 C.1.2.1 dL_law_1130 (by decide) (fun _ => k) (fun h => absurd rfl h)) ?_
  exact kk M2 h3
set_option maxRecDepth 100000 in
set_option maxHeartbeats 4000000 in
theorem zw_case_sheet {p : Program} {l : Launch} {e : Env} {s : State} {m : MethodId} {below : List Frame} {meth : Method} {c : Code} {b L : Nat} {xs : Nat → Int32} {E : zz_E} (C : zz_C E RL code 4 wsL_law p s m #[Value.ref b] meth c) (hX : va_X b L xs s s.heap) (hbl : b < s.heap.size) (hE : E.1 = s.heap.size) (hL : L ≤ 3072) {Inv : zz_M → Prop} {M : zz_M} (hop : (∀ (x1 : Int32) (x2 : Int32) (x3 : Int32), zw_eq Inv (f_X8_sheet 0 x1 x2 x3) (f_X9_sheet 129 x1 x2 x3) M)) {i : Nat} {x3 : Int32} (hx3 : x3 = nI i) (hi : i + 6 ≤ L) {ls : Array Slot} (hl : lv_has ls 4 [(0, .ref b), (1, .ref (E.1 + 0)), (2, .ref (E.1 + 129)), (3, .int x3)]) (kk : ∀ M2 : zz_M, Inv M2 → zw_Z E p l e s m b below meth c 141 4382 M2 (F0 m 1499 ls [])) : zw_Z E p l e s m b below meth c 141 4382 M (F0 m 1135 ls []) := by
  obtain ⟨r, M1, M2, h1, h2, h3⟩ := hop (xs (i + 1)) (xs (i + 2)) (xs (i + 3))
  refine zw_step (fun H locs k => lv_aload_n C.1.1 C.1.2.1 dL_law_1135 rfl (lv_at hl 1 rfl) k) ?_
  refine zw_arg (k := 1) (p0 := 0) (p3 := 3) C hX hbl hE hl rfl rfl hx3 (by omega) (by omega) (by decide) dL_law_1136 dL_law_1137 dL_law_1138 dL_law_1139 dL_law_1140 ?_
  refine zw_arg (k := 2) (p0 := 0) (p3 := 3) C hX hbl hE hl rfl rfl hx3 (by omega) (by omega) (by decide) dL_law_1141 dL_law_1142 dL_law_1143 dL_law_1144 dL_law_1145 ?_
  refine zw_arg (k := 3) (p0 := 0) (p3 := 3) C hX hbl hE hl rfl rfl hx3 (by omega) (by omega) (by decide) dL_law_1146 dL_law_1147 dL_law_1148 dL_law_1149 dL_law_1150 ?_
  refine zw_callVi (As := [.int (xs (i + 1)), .int (xs (i + 2)), .int (xs (i + 3))]) (rest := []) C (m_X8_sheet l E 0 (xs (i + 1)) (xs (i + 2)) (xs (i + 3)) zw_k0 M) h1 (cwV 3 C.1.2.2.2.2 gL_law_X8_sheet rfl rfl rfl hdW_X8_sheet ⟨Nat.le_of_ble_eq_true rfl, Nat.le_of_ble_eq_true rfl⟩) (zz_lt zw_k0 (by decide)) (zz_c8 zw_k0) rfl rfl hl.1 rfl (Nat.le_of_ble_eq_true rfl) dL_law_1151 (Nat.le_of_ble_eq_true rfl) (Nat.le_of_ble_eq_true rfl) ?_
  refine zw_step (fun H locs k => lv_aload_n C.1.1 C.1.2.1 dL_law_1154 rfl (lv_at hl 2 rfl) k) ?_
  refine zw_arg (k := 1) (p0 := 0) (p3 := 3) C hX hbl hE hl rfl rfl hx3 (by omega) (by omega) (by decide) dL_law_1155 dL_law_1156 dL_law_1157 dL_law_1158 dL_law_1159 ?_
  refine zw_arg (k := 2) (p0 := 0) (p3 := 3) C hX hbl hE hl rfl rfl hx3 (by omega) (by omega) (by decide) dL_law_1160 dL_law_1161 dL_law_1162 dL_law_1163 dL_law_1164 ?_
  refine zw_arg (k := 3) (p0 := 0) (p3 := 3) C hX hbl hE hl rfl rfl hx3 (by omega) (by omega) (by decide) dL_law_1165 dL_law_1166 dL_law_1167 dL_law_1168 dL_law_1169 ?_
  refine zw_callVi (As := [.int (xs (i + 1)), .int (xs (i + 2)), .int (xs (i + 3))]) (rest := [.int r]) C (m_X9_sheet l E 129 (xs (i + 1)) (xs (i + 2)) (xs (i + 3)) zw_k129 M1) h2 (cwV 3 C.1.2.2.2.2 gL_law_X9_sheet rfl rfl rfl hdW_X9_sheet ⟨Nat.le_of_ble_eq_true rfl, Nat.le_of_ble_eq_true rfl⟩) (zz_lt zw_k129 (by decide)) (zz_c9 zw_k129) rfl rfl hl.1 rfl (Nat.le_of_ble_eq_true rfl) dL_law_1170 (Nat.le_of_ble_eq_true rfl) (Nat.le_of_ble_eq_true rfl) ?_
  refine zw_step (fun H locs k => lv_icmp_eq (tgt := 1499) C.1.1 C.1.2.1 dL_law_1173 (by decide) (fun _ => k) (fun h => absurd rfl h)) ?_
  exact kk M2 h3
set_option maxRecDepth 100000 in
set_option maxHeartbeats 4000000 in
theorem zw_case_write {p : Program} {l : Launch} {e : Env} {s : State} {m : MethodId} {below : List Frame} {meth : Method} {c : Code} {b L : Nat} {xs : Nat → Int32} {E : zz_E} (C : zz_C E RL code 4 wsL_law p s m #[Value.ref b] meth c) (hX : va_X b L xs s s.heap) (hbl : b < s.heap.size) (hE : E.1 = s.heap.size) (hL : L ≤ 3072) {Inv : zz_M → Prop} {M : zz_M} (hop : (∀ (x1 : Int32) (x2 : Int32) (x3 : Int64), zw_eq Inv (f_X8_write 0 x1 x2 x3) (f_X9_write 129 x1 x2 x3) M)) {i : Nat} {x3 : Int32} (hx3 : x3 = nI i) (hi : i + 6 ≤ L) {ls : Array Slot} (hl : lv_has ls 4 [(0, .ref b), (1, .ref (E.1 + 0)), (2, .ref (E.1 + 129)), (3, .int x3)]) (kk : ∀ M2 : zz_M, Inv M2 → zw_Z E p l e s m b below meth c 141 4382 M2 (F0 m 1499 ls [])) : zw_Z E p l e s m b below meth c 141 4382 M (F0 m 1178 ls []) := by
  obtain ⟨r, M1, M2, h1, h2, h3⟩ := hop (xs (i + 1)) (xs (i + 2)) (((xs (i + 3)).toInt64 <<< ((32 : Int32).toInt64 &&& 63)) ||| (((xs (i + 4)).toInt64) &&& (4294967295 : Int64)))
  refine zw_step (fun H locs k => lv_aload_n C.1.1 C.1.2.1 dL_law_1178 rfl (lv_at hl 1 rfl) k) ?_
  refine zw_arg (k := 1) (p0 := 0) (p3 := 3) C hX hbl hE hl rfl rfl hx3 (by omega) (by omega) (by decide) dL_law_1179 dL_law_1180 dL_law_1181 dL_law_1182 dL_law_1183 ?_
  refine zw_arg (k := 2) (p0 := 0) (p3 := 3) C hX hbl hE hl rfl rfl hx3 (by omega) (by omega) (by decide) dL_law_1184 dL_law_1185 dL_law_1186 dL_law_1187 dL_law_1188 ?_
  refine zw_arg (k := 3) (p0 := 0) (p3 := 3) C hX hbl hE hl rfl rfl hx3 (by omega) (by omega) (by decide) dL_law_1189 dL_law_1190 dL_law_1191 dL_law_1192 dL_law_1193 ?_
  refine zw_step (fun H locs k => lv_i2l C.1.1 C.1.2.1 dL_law_1194 rfl k) ?_
  refine zw_step (fun H locs k => lv_bipush (v := 32) C.1.1 C.1.2.1 dL_law_1195 (by decide) k) ?_
  refine zw_step (fun H locs k => lv_lshl C.1.1 C.1.2.1 dL_law_1197 rfl k) ?_
  refine zw_arg (k := 4) (p0 := 0) (p3 := 3) C hX hbl hE hl rfl rfl hx3 (by omega) (by omega) (by decide) dL_law_1198 dL_law_1199 dL_law_1200 dL_law_1201 dL_law_1202 ?_
  refine zw_step (fun H locs k => lv_i2l C.1.1 C.1.2.1 dL_law_1203 rfl k) ?_
  refine zw_step (fun H locs k => lv_ldc2 (v := 4294967295) C.1.1 C.1.2.1 C.1.2.2.2.1 (C.1.2.2.2.2 _ (List.mem_of_getElem? (i := 6) rfl)) dL_law_1204 k) ?_
  refine zw_step (fun H locs k => lv_land C.1.1 C.1.2.1 dL_law_1207 k) ?_
  refine zw_step (fun H locs k => lv_lor C.1.1 C.1.2.1 dL_law_1208 k) ?_
  refine zw_callVl (As := [.int (xs (i + 1)), .int (xs (i + 2)), .long (((xs (i + 3)).toInt64 <<< ((32 : Int32).toInt64 &&& 63)) ||| (((xs (i + 4)).toInt64) &&& (4294967295 : Int64)))]) (rest := []) C (m_X8_write l E 0 (xs (i + 1)) (xs (i + 2)) (((xs (i + 3)).toInt64 <<< ((32 : Int32).toInt64 &&& 63)) ||| (((xs (i + 4)).toInt64) &&& (4294967295 : Int64))) zw_k0 M) h1 (cwV 3 C.1.2.2.2.2 gL_law_X8_write rfl rfl rfl hdW_X8_write ⟨Nat.le_of_ble_eq_true rfl, Nat.le_of_ble_eq_true rfl⟩) (zz_lt zw_k0 (by decide)) (zz_c8 zw_k0) rfl rfl hl.1 rfl (Nat.le_of_ble_eq_true rfl) dL_law_1209 (Nat.le_of_ble_eq_true rfl) (Nat.le_of_ble_eq_true rfl) ?_
  refine zw_step (fun H locs k => lv_aload_n C.1.1 C.1.2.1 dL_law_1212 rfl (lv_at hl 2 rfl) k) ?_
  refine zw_arg (k := 1) (p0 := 0) (p3 := 3) C hX hbl hE hl rfl rfl hx3 (by omega) (by omega) (by decide) dL_law_1213 dL_law_1214 dL_law_1215 dL_law_1216 dL_law_1217 ?_
  refine zw_arg (k := 2) (p0 := 0) (p3 := 3) C hX hbl hE hl rfl rfl hx3 (by omega) (by omega) (by decide) dL_law_1218 dL_law_1219 dL_law_1220 dL_law_1221 dL_law_1222 ?_
  refine zw_arg (k := 3) (p0 := 0) (p3 := 3) C hX hbl hE hl rfl rfl hx3 (by omega) (by omega) (by decide) dL_law_1223 dL_law_1224 dL_law_1225 dL_law_1226 dL_law_1227 ?_
  refine zw_step (fun H locs k => lv_i2l C.1.1 C.1.2.1 dL_law_1228 rfl k) ?_
  refine zw_step (fun H locs k => lv_bipush (v := 32) C.1.1 C.1.2.1 dL_law_1229 (by decide) k) ?_
  refine zw_step (fun H locs k => lv_lshl C.1.1 C.1.2.1 dL_law_1231 rfl k) ?_
  refine zw_arg (k := 4) (p0 := 0) (p3 := 3) C hX hbl hE hl rfl rfl hx3 (by omega) (by omega) (by decide) dL_law_1232 dL_law_1233 dL_law_1234 dL_law_1235 dL_law_1236 ?_
  refine zw_step (fun H locs k => lv_i2l C.1.1 C.1.2.1 dL_law_1237 rfl k) ?_
  refine zw_step (fun H locs k => lv_ldc2 (v := 4294967295) C.1.1 C.1.2.1 C.1.2.2.2.1 (C.1.2.2.2.2 _ (List.mem_of_getElem? (i := 6) rfl)) dL_law_1238 k) ?_
  refine zw_step (fun H locs k => lv_land C.1.1 C.1.2.1 dL_law_1241 k) ?_
  refine zw_step (fun H locs k => lv_lor C.1.1 C.1.2.1 dL_law_1242 k) ?_
  refine zw_callVl (As := [.int (xs (i + 1)), .int (xs (i + 2)), .long (((xs (i + 3)).toInt64 <<< ((32 : Int32).toInt64 &&& 63)) ||| (((xs (i + 4)).toInt64) &&& (4294967295 : Int64)))]) (rest := [.long r]) C (m_X9_write l E 129 (xs (i + 1)) (xs (i + 2)) (((xs (i + 3)).toInt64 <<< ((32 : Int32).toInt64 &&& 63)) ||| (((xs (i + 4)).toInt64) &&& (4294967295 : Int64))) zw_k129 M1) h2 (cwV 3 C.1.2.2.2.2 gL_law_X9_write rfl rfl rfl hdW_X9_write ⟨Nat.le_of_ble_eq_true rfl, Nat.le_of_ble_eq_true rfl⟩) (zz_lt zw_k129 (by decide)) (zz_c9 zw_k129) rfl rfl hl.1 rfl (Nat.le_of_ble_eq_true rfl) dL_law_1243 (Nat.le_of_ble_eq_true rfl) (Nat.le_of_ble_eq_true rfl) ?_
  refine zw_step (fun H locs k => W.lcmp C.1.1 C.1.2.1 dL_law_1246 k) ?_
  refine zw_step (fun H locs k => lv_if_eq (tgt := 1499) C.1.1 C.1.2.1 dL_law_1247 (by decide) (fun _ => k) (fun h => absurd ((lg_cmp_eq r r).mpr rfl) h)) ?_
  exact kk M2 h3
set_option maxRecDepth 100000 in
set_option maxHeartbeats 4000000 in
theorem zw_case_copy {p : Program} {l : Launch} {e : Env} {s : State} {m : MethodId} {below : List Frame} {meth : Method} {c : Code} {b L : Nat} {xs : Nat → Int32} {E : zz_E} (C : zz_C E RL code 4 wsL_law p s m #[Value.ref b] meth c) (hX : va_X b L xs s s.heap) (hbl : b < s.heap.size) (hE : E.1 = s.heap.size) (hL : L ≤ 3072) {Inv : zz_M → Prop} {M : zz_M} (hop : (∀ (x1 : Int32) (x2 : Int32) (x3 : Int32) (x4 : Int32) (x5 : Int32), zw_eq Inv (f_X8_copy 0 x1 x2 x3 x4 x5) (f_X9_copy 129 x1 x2 x3 x4 x5) M)) {i : Nat} {x3 : Int32} (hx3 : x3 = nI i) (hi : i + 6 ≤ L) {ls : Array Slot} (hl : lv_has ls 4 [(0, .ref b), (1, .ref (E.1 + 0)), (2, .ref (E.1 + 129)), (3, .int x3)]) (kk : ∀ M2 : zz_M, Inv M2 → zw_Z E p l e s m b below meth c 141 4382 M2 (F0 m 1499 ls [])) : zw_Z E p l e s m b below meth c 141 4382 M (F0 m 1252 ls []) := by
  obtain ⟨r, M1, M2, h1, h2, h3⟩ := hop (xs (i + 1)) (xs (i + 2)) (xs (i + 3)) (xs (i + 4)) (xs (i + 5))
  refine zw_step (fun H locs k => lv_aload_n C.1.1 C.1.2.1 dL_law_1252 rfl (lv_at hl 1 rfl) k) ?_
  refine zw_arg (k := 1) (p0 := 0) (p3 := 3) C hX hbl hE hl rfl rfl hx3 (by omega) (by omega) (by decide) dL_law_1253 dL_law_1254 dL_law_1255 dL_law_1256 dL_law_1257 ?_
  refine zw_arg (k := 2) (p0 := 0) (p3 := 3) C hX hbl hE hl rfl rfl hx3 (by omega) (by omega) (by decide) dL_law_1258 dL_law_1259 dL_law_1260 dL_law_1261 dL_law_1262 ?_
  refine zw_arg (k := 3) (p0 := 0) (p3 := 3) C hX hbl hE hl rfl rfl hx3 (by omega) (by omega) (by decide) dL_law_1263 dL_law_1264 dL_law_1265 dL_law_1266 dL_law_1267 ?_
  refine zw_arg (k := 4) (p0 := 0) (p3 := 3) C hX hbl hE hl rfl rfl hx3 (by omega) (by omega) (by decide) dL_law_1268 dL_law_1269 dL_law_1270 dL_law_1271 dL_law_1272 ?_
  refine zw_arg (k := 5) (p0 := 0) (p3 := 3) C hX hbl hE hl rfl rfl hx3 (by omega) (by omega) (by decide) dL_law_1273 dL_law_1274 dL_law_1275 dL_law_1276 dL_law_1277 ?_
  refine zw_callVi (As := [.int (xs (i + 1)), .int (xs (i + 2)), .int (xs (i + 3)), .int (xs (i + 4)), .int (xs (i + 5))]) (rest := []) C (m_X8_copy l E 0 (xs (i + 1)) (xs (i + 2)) (xs (i + 3)) (xs (i + 4)) (xs (i + 5)) zw_k0 M) h1 (cwV 5 C.1.2.2.2.2 gL_law_X8_copy rfl rfl rfl hdW_X8_copy ⟨Nat.le_of_ble_eq_true rfl, Nat.le_of_ble_eq_true rfl⟩) (zz_lt zw_k0 (by decide)) (zz_c8 zw_k0) rfl rfl hl.1 rfl (Nat.le_of_ble_eq_true rfl) dL_law_1278 (Nat.le_of_ble_eq_true rfl) (Nat.le_of_ble_eq_true rfl) ?_
  refine zw_step (fun H locs k => lv_aload_n C.1.1 C.1.2.1 dL_law_1281 rfl (lv_at hl 2 rfl) k) ?_
  refine zw_arg (k := 1) (p0 := 0) (p3 := 3) C hX hbl hE hl rfl rfl hx3 (by omega) (by omega) (by decide) dL_law_1282 dL_law_1283 dL_law_1284 dL_law_1285 dL_law_1286 ?_
  refine zw_arg (k := 2) (p0 := 0) (p3 := 3) C hX hbl hE hl rfl rfl hx3 (by omega) (by omega) (by decide) dL_law_1287 dL_law_1288 dL_law_1289 dL_law_1290 dL_law_1291 ?_
  refine zw_arg (k := 3) (p0 := 0) (p3 := 3) C hX hbl hE hl rfl rfl hx3 (by omega) (by omega) (by decide) dL_law_1292 dL_law_1293 dL_law_1294 dL_law_1295 dL_law_1296 ?_
  refine zw_arg (k := 4) (p0 := 0) (p3 := 3) C hX hbl hE hl rfl rfl hx3 (by omega) (by omega) (by decide) dL_law_1297 dL_law_1298 dL_law_1299 dL_law_1300 dL_law_1301 ?_
  refine zw_arg (k := 5) (p0 := 0) (p3 := 3) C hX hbl hE hl rfl rfl hx3 (by omega) (by omega) (by decide) dL_law_1302 dL_law_1303 dL_law_1304 dL_law_1305 dL_law_1306 ?_
  refine zw_callVi (As := [.int (xs (i + 1)), .int (xs (i + 2)), .int (xs (i + 3)), .int (xs (i + 4)), .int (xs (i + 5))]) (rest := [.int r]) C (m_X9_copy l E 129 (xs (i + 1)) (xs (i + 2)) (xs (i + 3)) (xs (i + 4)) (xs (i + 5)) zw_k129 M1) h2 (cwV 5 C.1.2.2.2.2 gL_law_X9_copy rfl rfl rfl hdW_X9_copy ⟨Nat.le_of_ble_eq_true rfl, Nat.le_of_ble_eq_true rfl⟩) (zz_lt zw_k129 (by decide)) (zz_c9 zw_k129) rfl rfl hl.1 rfl (Nat.le_of_ble_eq_true rfl) dL_law_1307 (Nat.le_of_ble_eq_true rfl) (Nat.le_of_ble_eq_true rfl) ?_
  refine zw_step (fun H locs k => lv_icmp_eq (tgt := 1499) C.1.1 C.1.2.1 dL_law_1310 (by decide) (fun _ => k) (fun h => absurd rfl h)) ?_
  exact kk M2 h3
set_option maxRecDepth 100000 in
set_option maxHeartbeats 4000000 in
theorem zw_case_lays {p : Program} {l : Launch} {e : Env} {s : State} {m : MethodId} {below : List Frame} {meth : Method} {c : Code} {b L : Nat} {xs : Nat → Int32} {E : zz_E} (C : zz_C E RL code 4 wsL_law p s m #[Value.ref b] meth c) (hX : va_X b L xs s s.heap) (hbl : b < s.heap.size) (hE : E.1 = s.heap.size) (hL : L ≤ 3072) {Inv : zz_M → Prop} {M : zz_M} (hop : (∀ (x1 : Int32) (x2 : Int32), zw_eq Inv (f_X8_lays 0 x1 x2) (f_X9_lays 129 x1 x2) M)) {i : Nat} {x3 : Int32} (hx3 : x3 = nI i) (hi : i + 6 ≤ L) {ls : Array Slot} (hl : lv_has ls 4 [(0, .ref b), (1, .ref (E.1 + 0)), (2, .ref (E.1 + 129)), (3, .int x3)]) (kk : ∀ M2 : zz_M, Inv M2 → zw_Z E p l e s m b below meth c 141 4382 M2 (F0 m 1499 ls [])) : zw_Z E p l e s m b below meth c 141 4382 M (F0 m 1315 ls []) := by
  obtain ⟨r, M1, M2, h1, h2, h3⟩ := hop (xs (i + 1)) (xs (i + 2))
  refine zw_step (fun H locs k => lv_aload_n C.1.1 C.1.2.1 dL_law_1315 rfl (lv_at hl 1 rfl) k) ?_
  refine zw_arg (k := 1) (p0 := 0) (p3 := 3) C hX hbl hE hl rfl rfl hx3 (by omega) (by omega) (by decide) dL_law_1316 dL_law_1317 dL_law_1318 dL_law_1319 dL_law_1320 ?_
  refine zw_arg (k := 2) (p0 := 0) (p3 := 3) C hX hbl hE hl rfl rfl hx3 (by omega) (by omega) (by decide) dL_law_1321 dL_law_1322 dL_law_1323 dL_law_1324 dL_law_1325 ?_
  refine zw_callVi (As := [.int (xs (i + 1)), .int (xs (i + 2))]) (rest := []) C (m_X8_lays l E 0 (xs (i + 1)) (xs (i + 2)) zw_k0 M) h1 (cwV 2 C.1.2.2.2.2 gL_law_X8_lays rfl rfl rfl hdW_X8_lays ⟨Nat.le_of_ble_eq_true rfl, Nat.le_of_ble_eq_true rfl⟩) (zz_lt zw_k0 (by decide)) (zz_c8 zw_k0) rfl rfl hl.1 rfl (Nat.le_of_ble_eq_true rfl) dL_law_1326 (Nat.le_of_ble_eq_true rfl) (Nat.le_of_ble_eq_true rfl) ?_
  refine zw_step (fun H locs k => lv_aload_n C.1.1 C.1.2.1 dL_law_1329 rfl (lv_at hl 2 rfl) k) ?_
  refine zw_arg (k := 1) (p0 := 0) (p3 := 3) C hX hbl hE hl rfl rfl hx3 (by omega) (by omega) (by decide) dL_law_1330 dL_law_1331 dL_law_1332 dL_law_1333 dL_law_1334 ?_
  refine zw_arg (k := 2) (p0 := 0) (p3 := 3) C hX hbl hE hl rfl rfl hx3 (by omega) (by omega) (by decide) dL_law_1335 dL_law_1336 dL_law_1337 dL_law_1338 dL_law_1339 ?_
  refine zw_callVi (As := [.int (xs (i + 1)), .int (xs (i + 2))]) (rest := [.int r]) C (m_X9_lays l E 129 (xs (i + 1)) (xs (i + 2)) zw_k129 M1) h2 (cwV 2 C.1.2.2.2.2 gL_law_X9_lays rfl rfl rfl hdW_X9_lays ⟨Nat.le_of_ble_eq_true rfl, Nat.le_of_ble_eq_true rfl⟩) (zz_lt zw_k129 (by decide)) (zz_c9 zw_k129) rfl rfl hl.1 rfl (Nat.le_of_ble_eq_true rfl) dL_law_1340 (Nat.le_of_ble_eq_true rfl) (Nat.le_of_ble_eq_true rfl) ?_
  refine zw_step (fun H locs k => lv_icmp_eq (tgt := 1499) C.1.1 C.1.2.1 dL_law_1343 (by decide) (fun _ => k) (fun h => absurd rfl h)) ?_
  exact kk M2 h3
set_option maxRecDepth 100000 in
set_option maxHeartbeats 4000000 in
theorem zw_case_show {p : Program} {l : Launch} {e : Env} {s : State} {m : MethodId} {below : List Frame} {meth : Method} {c : Code} {b L : Nat} {xs : Nat → Int32} {E : zz_E} (C : zz_C E RL code 4 wsL_law p s m #[Value.ref b] meth c) (hX : va_X b L xs s s.heap) (hbl : b < s.heap.size) (hE : E.1 = s.heap.size) (hL : L ≤ 3072) {Inv : zz_M → Prop} {M : zz_M} (hop : (∀ (x1 : Int32) (x2 : Int32), zw_eq Inv (f_X8_show 0 x1 x2) (f_X9_show 129 x1 x2) M)) {i : Nat} {x3 : Int32} (hx3 : x3 = nI i) (hi : i + 6 ≤ L) {ls : Array Slot} (hl : lv_has ls 4 [(0, .ref b), (1, .ref (E.1 + 0)), (2, .ref (E.1 + 129)), (3, .int x3)]) (kk : ∀ M2 : zz_M, Inv M2 → zw_Z E p l e s m b below meth c 141 4382 M2 (F0 m 1499 ls [])) : zw_Z E p l e s m b below meth c 141 4382 M (F0 m 1348 ls []) := by
  obtain ⟨r, M1, M2, h1, h2, h3⟩ := hop (xs (i + 1)) (xs (i + 2))
  refine zw_step (fun H locs k => lv_aload_n C.1.1 C.1.2.1 dL_law_1348 rfl (lv_at hl 1 rfl) k) ?_
  refine zw_arg (k := 1) (p0 := 0) (p3 := 3) C hX hbl hE hl rfl rfl hx3 (by omega) (by omega) (by decide) dL_law_1349 dL_law_1350 dL_law_1351 dL_law_1352 dL_law_1353 ?_
  refine zw_arg (k := 2) (p0 := 0) (p3 := 3) C hX hbl hE hl rfl rfl hx3 (by omega) (by omega) (by decide) dL_law_1354 dL_law_1355 dL_law_1356 dL_law_1357 dL_law_1358 ?_
  refine zw_callVi (As := [.int (xs (i + 1)), .int (xs (i + 2))]) (rest := []) C (m_X8_show l E 0 (xs (i + 1)) (xs (i + 2)) zw_k0 M) h1 (cwV 2 C.1.2.2.2.2 gL_law_X8_show rfl rfl rfl hdW_X8_show ⟨Nat.le_of_ble_eq_true rfl, Nat.le_of_ble_eq_true rfl⟩) (zz_lt zw_k0 (by decide)) (zz_c8 zw_k0) rfl rfl hl.1 rfl (Nat.le_of_ble_eq_true rfl) dL_law_1359 (Nat.le_of_ble_eq_true rfl) (Nat.le_of_ble_eq_true rfl) ?_
  refine zw_step (fun H locs k => lv_aload_n C.1.1 C.1.2.1 dL_law_1362 rfl (lv_at hl 2 rfl) k) ?_
  refine zw_arg (k := 1) (p0 := 0) (p3 := 3) C hX hbl hE hl rfl rfl hx3 (by omega) (by omega) (by decide) dL_law_1363 dL_law_1364 dL_law_1365 dL_law_1366 dL_law_1367 ?_
  refine zw_arg (k := 2) (p0 := 0) (p3 := 3) C hX hbl hE hl rfl rfl hx3 (by omega) (by omega) (by decide) dL_law_1368 dL_law_1369 dL_law_1370 dL_law_1371 dL_law_1372 ?_
  refine zw_callVi (As := [.int (xs (i + 1)), .int (xs (i + 2))]) (rest := [.int r]) C (m_X9_show l E 129 (xs (i + 1)) (xs (i + 2)) zw_k129 M1) h2 (cwV 2 C.1.2.2.2.2 gL_law_X9_show rfl rfl rfl hdW_X9_show ⟨Nat.le_of_ble_eq_true rfl, Nat.le_of_ble_eq_true rfl⟩) (zz_lt zw_k129 (by decide)) (zz_c9 zw_k129) rfl rfl hl.1 rfl (Nat.le_of_ble_eq_true rfl) dL_law_1373 (Nat.le_of_ble_eq_true rfl) (Nat.le_of_ble_eq_true rfl) ?_
  refine zw_step (fun H locs k => lv_icmp_eq (tgt := 1499) C.1.1 C.1.2.1 dL_law_1376 (by decide) (fun _ => k) (fun h => absurd rfl h)) ?_
  exact kk M2 h3
set_option maxRecDepth 100000 in
set_option maxHeartbeats 4000000 in
theorem zw_case_read {p : Program} {l : Launch} {e : Env} {s : State} {m : MethodId} {below : List Frame} {meth : Method} {c : Code} {b L : Nat} {xs : Nat → Int32} {E : zz_E} (C : zz_C E RL code 4 wsL_law p s m #[Value.ref b] meth c) (hX : va_X b L xs s s.heap) (hbl : b < s.heap.size) (hE : E.1 = s.heap.size) (hL : L ≤ 3072) {Inv : zz_M → Prop} {M : zz_M} (hop : (∀ (x1 : Int32) (x2 : Int32), zw_eq Inv (f_X8_read 0 x1 x2) (f_X9_read 129 x1 x2) M)) {i : Nat} {x3 : Int32} (hx3 : x3 = nI i) (hi : i + 6 ≤ L) {ls : Array Slot} (hl : lv_has ls 4 [(0, .ref b), (1, .ref (E.1 + 0)), (2, .ref (E.1 + 129)), (3, .int x3)]) (kk : ∀ M2 : zz_M, Inv M2 → zw_Z E p l e s m b below meth c 141 4382 M2 (F0 m 1499 ls [])) : zw_Z E p l e s m b below meth c 141 4382 M (F0 m 1381 ls []) := by
  obtain ⟨r, M1, M2, h1, h2, h3⟩ := hop (xs (i + 1)) (xs (i + 2))
  refine zw_step (fun H locs k => lv_aload_n C.1.1 C.1.2.1 dL_law_1381 rfl (lv_at hl 1 rfl) k) ?_
  refine zw_arg (k := 1) (p0 := 0) (p3 := 3) C hX hbl hE hl rfl rfl hx3 (by omega) (by omega) (by decide) dL_law_1382 dL_law_1383 dL_law_1384 dL_law_1385 dL_law_1386 ?_
  refine zw_arg (k := 2) (p0 := 0) (p3 := 3) C hX hbl hE hl rfl rfl hx3 (by omega) (by omega) (by decide) dL_law_1387 dL_law_1388 dL_law_1389 dL_law_1390 dL_law_1391 ?_
  refine zw_callVi (As := [.int (xs (i + 1)), .int (xs (i + 2))]) (rest := []) C (m_X8_read l E 0 (xs (i + 1)) (xs (i + 2)) zw_k0 M) h1 (cwV 2 C.1.2.2.2.2 gL_law_X8_read rfl rfl rfl hdW_X8_read ⟨Nat.le_of_ble_eq_true rfl, Nat.le_of_ble_eq_true rfl⟩) (zz_lt zw_k0 (by decide)) (zz_c8 zw_k0) rfl rfl hl.1 rfl (Nat.le_of_ble_eq_true rfl) dL_law_1392 (Nat.le_of_ble_eq_true rfl) (Nat.le_of_ble_eq_true rfl) ?_
  refine zw_step (fun H locs k => lv_aload_n C.1.1 C.1.2.1 dL_law_1395 rfl (lv_at hl 2 rfl) k) ?_
  refine zw_arg (k := 1) (p0 := 0) (p3 := 3) C hX hbl hE hl rfl rfl hx3 (by omega) (by omega) (by decide) dL_law_1396 dL_law_1397 dL_law_1398 dL_law_1399 dL_law_1400 ?_
  refine zw_arg (k := 2) (p0 := 0) (p3 := 3) C hX hbl hE hl rfl rfl hx3 (by omega) (by omega) (by decide) dL_law_1401 dL_law_1402 dL_law_1403 dL_law_1404 dL_law_1405 ?_
  refine zw_callVi (As := [.int (xs (i + 1)), .int (xs (i + 2))]) (rest := [.int r]) C (m_X9_read l E 129 (xs (i + 1)) (xs (i + 2)) zw_k129 M1) h2 (cwV 2 C.1.2.2.2.2 gL_law_X9_read rfl rfl rfl hdW_X9_read ⟨Nat.le_of_ble_eq_true rfl, Nat.le_of_ble_eq_true rfl⟩) (zz_lt zw_k129 (by decide)) (zz_c9 zw_k129) rfl rfl hl.1 rfl (Nat.le_of_ble_eq_true rfl) dL_law_1406 (Nat.le_of_ble_eq_true rfl) (Nat.le_of_ble_eq_true rfl) ?_
  refine zw_step (fun H locs k => lv_icmp_eq (tgt := 1499) C.1.1 C.1.2.1 dL_law_1409 (by decide) (fun _ => k) (fun h => absurd rfl h)) ?_
  exact kk M2 h3
set_option maxRecDepth 100000 in
set_option maxHeartbeats 4000000 in
theorem zw_case_image {p : Program} {l : Launch} {e : Env} {s : State} {m : MethodId} {below : List Frame} {meth : Method} {c : Code} {b L : Nat} {xs : Nat → Int32} {E : zz_E} (C : zz_C E RL code 4 wsL_law p s m #[Value.ref b] meth c) (hX : va_X b L xs s s.heap) (hbl : b < s.heap.size) (hE : E.1 = s.heap.size) (hL : L ≤ 3072) {Inv : zz_M → Prop} {M : zz_M} (hop : (zw_eq Inv (f_X8_image 0) (f_X9_image 129) M)) {i : Nat} {x3 : Int32} (hx3 : x3 = nI i) (hi : i + 6 ≤ L) {ls : Array Slot} (hl : lv_has ls 4 [(0, .ref b), (1, .ref (E.1 + 0)), (2, .ref (E.1 + 129)), (3, .int x3)]) (kk : ∀ M2 : zz_M, Inv M2 → zw_Z E p l e s m b below meth c 141 4382 M2 (F0 m 1499 ls [])) : zw_Z E p l e s m b below meth c 141 4382 M (F0 m 1414 ls []) := by
  obtain ⟨r, M1, M2, h1, h2, h3⟩ := hop
  refine zw_step (fun H locs k => lv_aload_n C.1.1 C.1.2.1 dL_law_1414 rfl (lv_at hl 1 rfl) k) ?_
  refine zw_callVi (As := []) (rest := []) C (m_X8_image l E 0  zw_k0 M) h1 (cwV 0 C.1.2.2.2.2 gL_law_X8_image rfl rfl rfl hdW_X8_image ⟨Nat.le_of_ble_eq_true rfl, Nat.le_of_ble_eq_true rfl⟩) (zz_lt zw_k0 (by decide)) (zz_c8 zw_k0) rfl rfl hl.1 rfl (Nat.le_of_ble_eq_true rfl) dL_law_1415 (Nat.le_of_ble_eq_true rfl) (Nat.le_of_ble_eq_true rfl) ?_
  refine zw_step (fun H locs k => lv_aload_n C.1.1 C.1.2.1 dL_law_1418 rfl (lv_at hl 2 rfl) k) ?_
  refine zw_callVi (As := []) (rest := [.int r]) C (m_X9_image l E 129  zw_k129 M1) h2 (cwV 0 C.1.2.2.2.2 gL_law_X9_image rfl rfl rfl hdW_X9_image ⟨Nat.le_of_ble_eq_true rfl, Nat.le_of_ble_eq_true rfl⟩) (zz_lt zw_k129 (by decide)) (zz_c9 zw_k129) rfl rfl hl.1 rfl (Nat.le_of_ble_eq_true rfl) dL_law_1419 (Nat.le_of_ble_eq_true rfl) (Nat.le_of_ble_eq_true rfl) ?_
  refine zw_step (fun H locs k => lv_icmp_eq (tgt := 1499) C.1.1 C.1.2.1 dL_law_1422 (by decide) (fun _ => k) (fun h => absurd rfl h)) ?_
  exact kk M2 h3
set_option maxRecDepth 100000 in
set_option maxHeartbeats 4000000 in
theorem zw_case_undo {p : Program} {l : Launch} {e : Env} {s : State} {m : MethodId} {below : List Frame} {meth : Method} {c : Code} {b L : Nat} {xs : Nat → Int32} {E : zz_E} (C : zz_C E RL code 4 wsL_law p s m #[Value.ref b] meth c) (hX : va_X b L xs s s.heap) (hbl : b < s.heap.size) (hE : E.1 = s.heap.size) (hL : L ≤ 3072) {Inv : zz_M → Prop} {M : zz_M} (hop : (zw_eq Inv (f_X8_undo 0) (f_X9_undo 129) M)) {i : Nat} {x3 : Int32} (hx3 : x3 = nI i) (hi : i + 6 ≤ L) {ls : Array Slot} (hl : lv_has ls 4 [(0, .ref b), (1, .ref (E.1 + 0)), (2, .ref (E.1 + 129)), (3, .int x3)]) (kk : ∀ M2 : zz_M, Inv M2 → zw_Z E p l e s m b below meth c 141 4382 M2 (F0 m 1499 ls [])) : zw_Z E p l e s m b below meth c 141 4382 M (F0 m 1427 ls []) := by
  obtain ⟨r, M1, M2, h1, h2, h3⟩ := hop
  refine zw_step (fun H locs k => lv_aload_n C.1.1 C.1.2.1 dL_law_1427 rfl (lv_at hl 1 rfl) k) ?_
  refine zw_callVi (As := []) (rest := []) C (m_X8_undo l E 0  zw_k0 M) h1 (cwV 0 C.1.2.2.2.2 gL_law_X8_undo rfl rfl rfl hdW_X8_undo ⟨Nat.le_of_ble_eq_true rfl, Nat.le_of_ble_eq_true rfl⟩) (zz_lt zw_k0 (by decide)) (zz_c8 zw_k0) rfl rfl hl.1 rfl (Nat.le_of_ble_eq_true rfl) dL_law_1428 (Nat.le_of_ble_eq_true rfl) (Nat.le_of_ble_eq_true rfl) ?_
  refine zw_step (fun H locs k => lv_aload_n C.1.1 C.1.2.1 dL_law_1431 rfl (lv_at hl 2 rfl) k) ?_
  refine zw_callVi (As := []) (rest := [.int r]) C (m_X9_undo l E 129  zw_k129 M1) h2 (cwV 0 C.1.2.2.2.2 gL_law_X9_undo rfl rfl rfl hdW_X9_undo ⟨Nat.le_of_ble_eq_true rfl, Nat.le_of_ble_eq_true rfl⟩) (zz_lt zw_k129 (by decide)) (zz_c9 zw_k129) rfl rfl hl.1 rfl (Nat.le_of_ble_eq_true rfl) dL_law_1432 (Nat.le_of_ble_eq_true rfl) (Nat.le_of_ble_eq_true rfl) ?_
  refine zw_step (fun H locs k => lv_icmp_eq (tgt := 1499) C.1.1 C.1.2.1 dL_law_1435 (by decide) (fun _ => k) (fun h => absurd rfl h)) ?_
  exact kk M2 h3
set_option maxRecDepth 100000 in
set_option maxHeartbeats 4000000 in
theorem zw_case_tear {p : Program} {l : Launch} {e : Env} {s : State} {m : MethodId} {below : List Frame} {meth : Method} {c : Code} {b L : Nat} {xs : Nat → Int32} {E : zz_E} (C : zz_C E RL code 4 wsL_law p s m #[Value.ref b] meth c) (hX : va_X b L xs s s.heap) (hbl : b < s.heap.size) (hE : E.1 = s.heap.size) (hL : L ≤ 3072) {Inv : zz_M → Prop} {M : zz_M} (hop : (zw_eq Inv (f_X8_tear 0) (f_X9_tear 129) M)) {i : Nat} {x3 : Int32} (hx3 : x3 = nI i) (hi : i + 6 ≤ L) {ls : Array Slot} (hl : lv_has ls 4 [(0, .ref b), (1, .ref (E.1 + 0)), (2, .ref (E.1 + 129)), (3, .int x3)]) (kk : ∀ M2 : zz_M, Inv M2 → zw_Z E p l e s m b below meth c 141 4382 M2 (F0 m 1499 ls [])) : zw_Z E p l e s m b below meth c 141 4382 M (F0 m 1440 ls []) := by
  obtain ⟨r, M1, M2, h1, h2, h3⟩ := hop
  refine zw_step (fun H locs k => lv_aload_n C.1.1 C.1.2.1 dL_law_1440 rfl (lv_at hl 1 rfl) k) ?_
  refine zw_callVi (As := []) (rest := []) C (m_X8_tear l E 0  zw_k0 M) h1 (cwV 0 C.1.2.2.2.2 gL_law_X8_tear rfl rfl rfl hdW_X8_tear ⟨Nat.le_of_ble_eq_true rfl, Nat.le_of_ble_eq_true rfl⟩) (zz_lt zw_k0 (by decide)) (zz_c8 zw_k0) rfl rfl hl.1 rfl (Nat.le_of_ble_eq_true rfl) dL_law_1441 (Nat.le_of_ble_eq_true rfl) (Nat.le_of_ble_eq_true rfl) ?_
  refine zw_step (fun H locs k => lv_aload_n C.1.1 C.1.2.1 dL_law_1444 rfl (lv_at hl 2 rfl) k) ?_
  refine zw_callVi (As := []) (rest := [.int r]) C (m_X9_tear l E 129  zw_k129 M1) h2 (cwV 0 C.1.2.2.2.2 gL_law_X9_tear rfl rfl rfl hdW_X9_tear ⟨Nat.le_of_ble_eq_true rfl, Nat.le_of_ble_eq_true rfl⟩) (zz_lt zw_k129 (by decide)) (zz_c9 zw_k129) rfl rfl hl.1 rfl (Nat.le_of_ble_eq_true rfl) dL_law_1445 (Nat.le_of_ble_eq_true rfl) (Nat.le_of_ble_eq_true rfl) ?_
  refine zw_step (fun H locs k => lv_icmp_eq (tgt := 1499) C.1.1 C.1.2.1 dL_law_1448 (by decide) (fun _ => k) (fun h => absurd rfl h)) ?_
  exact kk M2 h3
set_option maxRecDepth 100000 in
set_option maxHeartbeats 4000000 in
theorem zw_case_count {p : Program} {l : Launch} {e : Env} {s : State} {m : MethodId} {below : List Frame} {meth : Method} {c : Code} {b L : Nat} {xs : Nat → Int32} {E : zz_E} (C : zz_C E RL code 4 wsL_law p s m #[Value.ref b] meth c) (hX : va_X b L xs s s.heap) (hbl : b < s.heap.size) (hE : E.1 = s.heap.size) (hL : L ≤ 3072) {Inv : zz_M → Prop} {M : zz_M} (hop : (∀ (x1 : Int32), zw_eq Inv (f_X8_count 0 x1) (f_X9_count 129 x1) M)) {i : Nat} {x3 : Int32} (hx3 : x3 = nI i) (hi : i + 6 ≤ L) {ls : Array Slot} (hl : lv_has ls 4 [(0, .ref b), (1, .ref (E.1 + 0)), (2, .ref (E.1 + 129)), (3, .int x3)]) (kk : ∀ M2 : zz_M, Inv M2 → zw_Z E p l e s m b below meth c 141 4382 M2 (F0 m 1499 ls [])) : zw_Z E p l e s m b below meth c 141 4382 M (F0 m 1453 ls []) := by
  obtain ⟨r, M1, M2, h1, h2, h3⟩ := hop (xs (i + 1))
  refine zw_step (fun H locs k => lv_aload_n C.1.1 C.1.2.1 dL_law_1453 rfl (lv_at hl 1 rfl) k) ?_
  refine zw_arg (k := 1) (p0 := 0) (p3 := 3) C hX hbl hE hl rfl rfl hx3 (by omega) (by omega) (by decide) dL_law_1454 dL_law_1455 dL_law_1456 dL_law_1457 dL_law_1458 ?_
  refine zw_callVi (As := [.int (xs (i + 1))]) (rest := []) C (m_X8_count l E 0 (xs (i + 1)) zw_k0 M) h1 (cwV 1 C.1.2.2.2.2 gL_law_X8_count rfl rfl rfl hdW_X8_count ⟨Nat.le_of_ble_eq_true rfl, Nat.le_of_ble_eq_true rfl⟩) (zz_lt zw_k0 (by decide)) (zz_c8 zw_k0) rfl rfl hl.1 rfl (Nat.le_of_ble_eq_true rfl) dL_law_1459 (Nat.le_of_ble_eq_true rfl) (Nat.le_of_ble_eq_true rfl) ?_
  refine zw_step (fun H locs k => lv_aload_n C.1.1 C.1.2.1 dL_law_1462 rfl (lv_at hl 2 rfl) k) ?_
  refine zw_arg (k := 1) (p0 := 0) (p3 := 3) C hX hbl hE hl rfl rfl hx3 (by omega) (by omega) (by decide) dL_law_1463 dL_law_1464 dL_law_1465 dL_law_1466 dL_law_1467 ?_
  refine zw_callVi (As := [.int (xs (i + 1))]) (rest := [.int r]) C (m_X9_count l E 129 (xs (i + 1)) zw_k129 M1) h2 (cwV 1 C.1.2.2.2.2 gL_law_X9_count rfl rfl rfl hdW_X9_count ⟨Nat.le_of_ble_eq_true rfl, Nat.le_of_ble_eq_true rfl⟩) (zz_lt zw_k129 (by decide)) (zz_c9 zw_k129) rfl rfl hl.1 rfl (Nat.le_of_ble_eq_true rfl) dL_law_1468 (Nat.le_of_ble_eq_true rfl) (Nat.le_of_ble_eq_true rfl) ?_
  refine zw_step (fun H locs k => lv_icmp_eq (tgt := 1499) C.1.1 C.1.2.1 dL_law_1471 (by decide) (fun _ => k) (fun h => absurd rfl h)) ?_
  exact kk M2 h3
set_option maxRecDepth 100000 in
set_option maxHeartbeats 4000000 in
theorem zw_case_status {p : Program} {l : Launch} {e : Env} {s : State} {m : MethodId} {below : List Frame} {meth : Method} {c : Code} {b L : Nat} {xs : Nat → Int32} {E : zz_E} (C : zz_C E RL code 4 wsL_law p s m #[Value.ref b] meth c) (hX : va_X b L xs s s.heap) (hbl : b < s.heap.size) (hE : E.1 = s.heap.size) (hL : L ≤ 3072) {Inv : zz_M → Prop} {M : zz_M} (hop : (∀ (x1 : Int32), zw_eq Inv (f_X8_status 0 x1) (f_X9_status 129 x1) M)) {i : Nat} {x3 : Int32} (hx3 : x3 = nI i) (hi : i + 6 ≤ L) {ls : Array Slot} (hl : lv_has ls 4 [(0, .ref b), (1, .ref (E.1 + 0)), (2, .ref (E.1 + 129)), (3, .int x3)]) (kk : ∀ M2 : zz_M, Inv M2 → zw_Z E p l e s m b below meth c 141 4382 M2 (F0 m 1499 ls [])) : zw_Z E p l e s m b below meth c 141 4382 M (F0 m 1476 ls []) := by
  obtain ⟨r, M1, M2, h1, h2, h3⟩ := hop (xs (i + 1))
  refine zw_step (fun H locs k => lv_aload_n C.1.1 C.1.2.1 dL_law_1476 rfl (lv_at hl 1 rfl) k) ?_
  refine zw_arg (k := 1) (p0 := 0) (p3 := 3) C hX hbl hE hl rfl rfl hx3 (by omega) (by omega) (by decide) dL_law_1477 dL_law_1478 dL_law_1479 dL_law_1480 dL_law_1481 ?_
  refine zw_callVi (As := [.int (xs (i + 1))]) (rest := []) C (m_X8_status l E 0 (xs (i + 1)) zw_k0 M) h1 (cwV 1 C.1.2.2.2.2 gL_law_X8_status rfl rfl rfl hdW_X8_status ⟨Nat.le_of_ble_eq_true rfl, Nat.le_of_ble_eq_true rfl⟩) (zz_lt zw_k0 (by decide)) (zz_c8 zw_k0) rfl rfl hl.1 rfl (Nat.le_of_ble_eq_true rfl) dL_law_1482 (Nat.le_of_ble_eq_true rfl) (Nat.le_of_ble_eq_true rfl) ?_
  refine zw_step (fun H locs k => lv_aload_n C.1.1 C.1.2.1 dL_law_1485 rfl (lv_at hl 2 rfl) k) ?_
  refine zw_arg (k := 1) (p0 := 0) (p3 := 3) C hX hbl hE hl rfl rfl hx3 (by omega) (by omega) (by decide) dL_law_1486 dL_law_1487 dL_law_1488 dL_law_1489 dL_law_1490 ?_
  refine zw_callVi (As := [.int (xs (i + 1))]) (rest := [.int r]) C (m_X9_status l E 129 (xs (i + 1)) zw_k129 M1) h2 (cwV 1 C.1.2.2.2.2 gL_law_X9_status rfl rfl rfl hdW_X9_status ⟨Nat.le_of_ble_eq_true rfl, Nat.le_of_ble_eq_true rfl⟩) (zz_lt zw_k129 (by decide)) (zz_c9 zw_k129) rfl rfl hl.1 rfl (Nat.le_of_ble_eq_true rfl) dL_law_1491 (Nat.le_of_ble_eq_true rfl) (Nat.le_of_ble_eq_true rfl) ?_
  refine zw_step (fun H locs k => lv_icmp_eq (tgt := 1499) C.1.1 C.1.2.1 dL_law_1494 (by decide) (fun _ => k) (fun h => absurd rfl h)) ?_
  exact kk M2 h3
set_option maxRecDepth 100000 in
theorem zw_end {p : Program} {l : Launch} {e : Env} {s : State} {m : MethodId} {below : List Frame} {meth : Method} {c : Code} {b L : Nat} {xs : Nat → Int32} {E : zz_E} (C : zz_C E RL code 4 wsL_law p s m #[Value.ref b] meth c) (hX : va_X b L xs s s.heap) (hbl : b < s.heap.size) (hE : E.1 = s.heap.size) (hL : L ≤ 3072) (hr : meth.sig.returnType = ret) {M : zz_M} {i : Nat} {x3 : Int32} (hx3 : x3 = nI i) (hend : L < i + 6) (hi6 : i ≤ L + 6) {ls : Array Slot} (hl : lv_has ls 4 [(0, .ref b), (1, .ref (E.1 + 0)), (2, .ref (E.1 + 129)), (3, .int x3)]) : zw_Z E p l e s m b below meth c 141 4382 M (F0 m 18 ls []) := by
  have hbA : ¬ zz_A E b := by unfold zz_A; rw [hE]; exact Nat.not_le.mpr hbl
  intro H locs hP hS
  refine lv_iload_n C.1.1 C.1.2.1 dL_law_18 rfl (lv_at hl 3 rfl) ?_
  refine lv_aload_n C.1.1 C.1.2.1 dL_law_19 rfl (lv_at hl 0 rfl) ?_
  refine va_slen C.1.1 C.1.2.1 hX hbl hbA hS dL_law_20 ?_
  refine lv_bipush (v := 6) C.1.1 C.1.2.1 dL_law_21 (by decide) ?_
  refine lv_isub C.1.1 C.1.2.1 dL_law_23 ?_
  refine lv_icmp_gt (tgt := 1505) C.1.1 C.1.2.1 dL_law_24 (by decide) (fun _ => ?_) (fun h => absurd (by
    rw [hx3, show (6 : Int32) = nI 6 from rfl, show Int32.ofNat L = nI L from rfl, Int32.lt_iff_toInt_lt, pk_sub_toInt (by omega) (by omega), nI_toInt (by omega)]
    omega) h)
  refine lv_iconst (v := 1) C.1.1 C.1.2.1 dL_law_1505 (by decide) ?_
  refine va_forget (fun q hq => by have h9 := hS.2.2 q hq; unfold zz_A at h9; rw [hE] at h9; exact h9) ?_
  refine W.widen (k := 600000) (n := 7302250) (Nat.le_of_ble_eq_true rfl) (Nat.le_of_ble_eq_true rfl) ?_
  exact lw_ret C.1.1 C.1.2.1 hr C.2.2 dL_law_1506
set_option maxRecDepth 100000 in
set_option maxHeartbeats 8000000 in
theorem zw_loop {p : Program} {l : Launch} {e : Env} {s : State} {m : MethodId} {below : List Frame} {meth : Method} {c : Code} {b L : Nat} {xs : Nat → Int32} {E : zz_E} (C : zz_C E RL code 4 wsL_law p s m #[Value.ref b] meth c) (hX : va_X b L xs s s.heap) (hbl : b < s.heap.size) (hE : E.1 = s.heap.size) (hL : L ≤ 3072) (hr : meth.sig.returnType = ret) {Inv : zz_M → Prop} (hok : zw_ok Inv) : ∀ (n i : Nat) (x3 : Int32) (M : zz_M), x3 = nI i → L + 1 ≤ i + n → i ≤ L + 6 → Inv M → ∀ ls : Array Slot, lv_has ls 4 [(0, .ref b), (1, .ref (E.1 + 0)), (2, .ref (E.1 + 129)), (3, .int x3)] → zw_Z E p l e s m b below meth c 141 4382 M (F0 m 18 ls []) := by
  intro n
  induction n with
  | zero =>
    intro i x3 M hx3 hn hi6 hI ls hl
    -- behind the script's end: the law ends here
    exact zw_end C hX hbl hE hL hr hx3 (by omega) hi6 hl
  | succ n ih =>
    intro i x3 M hx3 hn hi6 hI ls hl
    by_cases hend : L < i + 6
    · exact zw_end C hX hbl hE hL hr hx3 hend hi6 hl
    have hi : i + 6 ≤ L := by omega
    have hbA : ¬ zz_A E b := by unfold zz_A; rw [hE]; exact Nat.not_le.mpr hbl
    refine zw_step (fun H locs k => lv_iload_n C.1.1 C.1.2.1 dL_law_18 rfl (lv_at hl 3 rfl) k) ?_
    refine zw_step (fun H locs k => lv_aload_n C.1.1 C.1.2.1 dL_law_19 rfl (lv_at hl 0 rfl) k) ?_
    intro H locs hP hS
    refine va_slen C.1.1 C.1.2.1 hX hbl hbA hS dL_law_20 ?_
    refine lv_bipush (v := 6) C.1.1 C.1.2.1 dL_law_21 (by decide) ?_
    refine lv_isub C.1.1 C.1.2.1 dL_law_23 ?_
    refine lv_icmp_gt (tgt := 1505) C.1.1 C.1.2.1 dL_law_24 (by decide) (fun h => absurd h (by
      rw [hx3, show (6 : Int32) = nI 6 from rfl, show Int32.ofNat L = nI L from rfl, pk_sub (by omega)]
      exact nI_nlt (by omega) (by omega))) (fun _ => ?_)
    refine lv_aload_n C.1.1 C.1.2.1 dL_law_27 rfl (lv_at hl 0 rfl) ?_
    refine lv_iload_n C.1.1 C.1.2.1 dL_law_28 rfl (lv_at hl 3 rfl) ?_
    refine va_sld C.1.1 C.1.2.1 hX hbl hbA hS (by rw [hx3]; exact vp_in_nI (by omega) (by omega)) dL_law_29 ?_
    refine lv_bipush (v := 63) C.1.1 C.1.2.1 dL_law_30 (by decide) ?_
    refine lv_iand C.1.1 C.1.2.1 dL_law_32 ?_
    generalize xs x3.toNatClampNeg &&& 63 = op
    suffices hz : zw_Z E p l e s m b below meth c 141 4382 M (F0 m 33 ls [.int op]) from hz H locs hP hS
    have kk : ∀ M2 : zz_M, Inv M2 → zw_Z E p l e s m b below meth c 141 4382 M2 (F0 m 1499 ls []) := by
      intro M2 hI2 H locs hP hS
      refine lv_iinc (v := x3 + 6) (lv' := [(3, .int (x3 + 6)), (0, .ref b), (1, .ref (E.1 + 0)), (2, .ref (E.1 + 129))]) C.1.1 C.1.2.1 dL_law_1499 hl (k := 3) rfl rfl (by decide) rfl (fun ls hl => ?_)
      refine lv_goto (tgt := 18) C.1.1 C.1.2.1 dL_law_1502 (by decide) ?_
      exact ih (i + 6) (x3 + 6) M2 (by rw [hx3, show (6 : Int32) = nI 6 from rfl, nI_add]) (by omega) (by omega) hI2 ls (lv_sub hl [1, 2, 3, 0] rfl) H locs hP hS
    have hk := hok M hI
    by_cases h0 : op = 0
    · refine zw_step (fun H locs k => lv_tableIn (tgt := 208) C.1.1 C.1.2.1 dL_law_33 (by rw [h0]; decide) (by rw [h0]; decide) (by rw [h0]; rfl) (by decide) k) ?_
      exact zw_case_vatOf C hX hbl hE hL hk.1 hx3 hi hl kk
    by_cases h1 : op = 1
    · refine zw_step (fun H locs k => lv_tableIn (tgt := 241) C.1.1 C.1.2.1 dL_law_33 (by rw [h1]; decide) (by rw [h1]; decide) (by rw [h1]; rfl) (by decide) k) ?_
      exact zw_case_vat C hX hbl hE hL hk.2.1 hx3 hi hl kk
    by_cases h2 : op = 2
    · refine zw_step (fun H locs k => lv_tableIn (tgt := 284) C.1.1 C.1.2.1 dL_law_33 (by rw [h2]; decide) (by rw [h2]; decide) (by rw [h2]; rfl) (by decide) k) ?_
      exact zw_case_let C hX hbl hE hL hk.2.2.1 hx3 hi hl kk
    by_cases h3 : op = 3
    · refine zw_step (fun H locs k => lv_tableIn (tgt := 317) C.1.1 C.1.2.1 dL_law_33 (by rw [h3]; decide) (by rw [h3]; decide) (by rw [h3]; rfl) (by decide) k) ?_
      exact zw_case_candle C hX hbl hE hL hk.2.2.2.1 hx3 hi hl kk
    by_cases h4 : op = 4
    · refine zw_step (fun H locs k => lv_tableIn (tgt := 340) C.1.1 C.1.2.1 dL_law_33 (by rw [h4]; decide) (by rw [h4]; decide) (by rw [h4]; rfl) (by decide) k) ?_
      exact zw_case_of C hX hbl hE hL hk.2.2.2.2.1 hx3 hi hl kk
    by_cases h5 : op = 5
    · refine zw_step (fun H locs k => lv_tableIn (tgt := 373) C.1.1 C.1.2.1 dL_law_33 (by rw [h5]; decide) (by rw [h5]; decide) (by rw [h5]; rfl) (by decide) k) ?_
      exact zw_case_layer C hX hbl hE hL hk.2.2.2.2.2.1 hx3 hi hl kk
    by_cases h6 : op = 6
    · refine zw_step (fun H locs k => lv_tableIn (tgt := 406) C.1.1 C.1.2.1 dL_law_33 (by rw [h6]; decide) (by rw [h6]; decide) (by rw [h6]; rfl) (by decide) k) ?_
      exact zw_case_turn C hX hbl hE hL hk.2.2.2.2.2.2.1 hx3 hi hl kk
    by_cases h7 : op = 7
    · refine zw_step (fun H locs k => lv_tableIn (tgt := 439) C.1.1 C.1.2.1 dL_law_33 (by rw [h7]; decide) (by rw [h7]; decide) (by rw [h7]; rfl) (by decide) k) ?_
      exact zw_case_as C hX hbl hE hL hk.2.2.2.2.2.2.2.1 hx3 hi hl kk
    by_cases h8 : op = 8
    · refine zw_step (fun H locs k => lv_tableIn (tgt := 472) C.1.1 C.1.2.1 dL_law_33 (by rw [h8]; decide) (by rw [h8]; decide) (by rw [h8]; rfl) (by decide) k) ?_
      exact zw_case_takes C hX hbl hE hL hk.2.2.2.2.2.2.2.2.1 hx3 hi hl kk
    by_cases h9 : op = 9
    · refine zw_step (fun H locs k => lv_tableIn (tgt := 505) C.1.1 C.1.2.1 dL_law_33 (by rw [h9]; decide) (by rw [h9]; decide) (by rw [h9]; rfl) (by decide) k) ?_
      exact zw_case_dip C hX hbl hE hL hk.2.2.2.2.2.2.2.2.2.1 hx3 hi hl kk
    by_cases h10 : op = 10
    · refine zw_step (fun H locs k => lv_tableIn (tgt := 538) C.1.1 C.1.2.1 dL_law_33 (by rw [h10]; decide) (by rw [h10]; decide) (by rw [h10]; rfl) (by decide) k) ?_
      exact zw_case_melt C hX hbl hE hL hk.2.2.2.2.2.2.2.2.2.2.1 hx3 hi hl kk
    by_cases h11 : op = 11
    · refine zw_step (fun H locs k => lv_tableIn (tgt := 571) C.1.1 C.1.2.1 dL_law_33 (by rw [h11]; decide) (by rw [h11]; decide) (by rw [h11]; rfl) (by decide) k) ?_
      exact zw_case_burn C hX hbl hE hL hk.2.2.2.2.2.2.2.2.2.2.2.1 hx3 hi hl kk
    by_cases h12 : op = 12
    · refine zw_step (fun H locs k => lv_tableIn (tgt := 604) C.1.1 C.1.2.1 dL_law_33 (by rw [h12]; decide) (by rw [h12]; decide) (by rw [h12]; rfl) (by decide) k) ?_
      exact zw_case_hours C hX hbl hE hL hk.2.2.2.2.2.2.2.2.2.2.2.2.1 hx3 hi hl kk
    by_cases h13 : op = 13
    · refine zw_step (fun H locs k => lv_tableIn (tgt := 627) C.1.1 C.1.2.1 dL_law_33 (by rw [h13]; decide) (by rw [h13]; decide) (by rw [h13]; rfl) (by decide) k) ?_
      exact zw_case_now C hX hbl hE hL hk.2.2.2.2.2.2.2.2.2.2.2.2.2.1 hx3 hi hl kk
    by_cases h14 : op = 14
    · refine zw_step (fun H locs k => lv_tableIn (tgt := 650) C.1.1 C.1.2.1 dL_law_33 (by rw [h14]; decide) (by rw [h14]; decide) (by rw [h14]; rfl) (by decide) k) ?_
      exact zw_case_warm C hX hbl hE hL hk.2.2.2.2.2.2.2.2.2.2.2.2.2.2.1 hx3 hi hl kk
    by_cases h15 : op = 15
    · refine zw_step (fun H locs k => lv_tableIn (tgt := 683) C.1.1 C.1.2.1 dL_law_33 (by rw [h15]; decide) (by rw [h15]; decide) (by rw [h15]; rfl) (by decide) k) ?_
      exact zw_case_when C hX hbl hE hL hk.2.2.2.2.2.2.2.2.2.2.2.2.2.2.2.1 hx3 hi hl kk
    by_cases h16 : op = 16
    · refine zw_step (fun H locs k => lv_tableIn (tgt := 716) C.1.1 C.1.2.1 dL_law_33 (by rw [h16]; decide) (by rw [h16]; decide) (by rw [h16]; rfl) (by decide) k) ?_
      exact zw_case_takesIn C hX hbl hE hL hk.2.2.2.2.2.2.2.2.2.2.2.2.2.2.2.2.1 hx3 hi hl kk
    by_cases h17 : op = 17
    · refine zw_step (fun H locs k => lv_tableIn (tgt := 759) C.1.1 C.1.2.1 dL_law_33 (by rw [h17]; decide) (by rw [h17]; decide) (by rw [h17]; rfl) (by decide) k) ?_
      exact zw_case_burns C hX hbl hE hL hk.2.2.2.2.2.2.2.2.2.2.2.2.2.2.2.2.2.1 hx3 hi hl kk
    by_cases h18 : op = 18
    · refine zw_step (fun H locs k => lv_tableIn (tgt := 802) C.1.1 C.1.2.1 dL_law_33 (by rw [h18]; decide) (by rw [h18]; decide) (by rw [h18]; rfl) (by decide) k) ?_
      exact zw_case_fewest C hX hbl hE hL hk.2.2.2.2.2.2.2.2.2.2.2.2.2.2.2.2.2.2.1 hx3 hi hl kk
    by_cases h19 : op = 19
    · refine zw_step (fun H locs k => lv_tableIn (tgt := 835) C.1.1 C.1.2.1 dL_law_33 (by rw [h19]; decide) (by rw [h19]; decide) (by rw [h19]; rfl) (by decide) k) ?_
      exact zw_case_ith C hX hbl hE hL hk.2.2.2.2.2.2.2.2.2.2.2.2.2.2.2.2.2.2.2.1 hx3 hi hl kk
    by_cases h20 : op = 20
    · refine zw_step (fun H locs k => lv_tableIn (tgt := 878) C.1.1 C.1.2.1 dL_law_33 (by rw [h20]; decide) (by rw [h20]; decide) (by rw [h20]; rfl) (by decide) k) ?_
      exact zw_case_ways C hX hbl hE hL hk.2.2.2.2.2.2.2.2.2.2.2.2.2.2.2.2.2.2.2.2.1 hx3 hi hl kk
    by_cases h21 : op = 21
    · refine zw_step (fun H locs k => lv_tableIn (tgt := 921) C.1.1 C.1.2.1 dL_law_33 (by rw [h21]; decide) (by rw [h21]; decide) (by rw [h21]; rfl) (by decide) k) ?_
      exact zw_case_most C hX hbl hE hL hk.2.2.2.2.2.2.2.2.2.2.2.2.2.2.2.2.2.2.2.2.2.1 hx3 hi hl kk
    by_cases h22 : op = 22
    · refine zw_step (fun H locs k => lv_tableIn (tgt := 954) C.1.1 C.1.2.1 dL_law_33 (by rw [h22]; decide) (by rw [h22]; decide) (by rw [h22]; rfl) (by decide) k) ?_
      exact zw_case_best C hX hbl hE hL hk.2.2.2.2.2.2.2.2.2.2.2.2.2.2.2.2.2.2.2.2.2.2.1 hx3 hi hl kk
    by_cases h23 : op = 23
    · refine zw_step (fun H locs k => lv_tableIn (tgt := 977) C.1.1 C.1.2.1 dL_law_33 (by rw [h23]; decide) (by rw [h23]; decide) (by rw [h23]; rfl) (by decide) k) ?_
      exact zw_case_kind C hX hbl hE hL hk.2.2.2.2.2.2.2.2.2.2.2.2.2.2.2.2.2.2.2.2.2.2.2.1 hx3 hi hl kk
    by_cases h24 : op = 24
    · refine zw_step (fun H locs k => lv_tableIn (tgt := 1020) C.1.1 C.1.2.1 dL_law_33 (by rw [h24]; decide) (by rw [h24]; decide) (by rw [h24]; rfl) (by decide) k) ?_
      exact zw_case_fires C hX hbl hE hL hk.2.2.2.2.2.2.2.2.2.2.2.2.2.2.2.2.2.2.2.2.2.2.2.2.1 hx3 hi hl kk
    by_cases h25 : op = 25
    · refine zw_step (fun H locs k => lv_tableIn (tgt := 1053) C.1.1 C.1.2.1 dL_law_33 (by rw [h25]; decide) (by rw [h25]; decide) (by rw [h25]; rfl) (by decide) k) ?_
      exact zw_case_enough C hX hbl hE hL hk.2.2.2.2.2.2.2.2.2.2.2.2.2.2.2.2.2.2.2.2.2.2.2.2.2.1 hx3 hi hl kk
    by_cases h26 : op = 26
    · refine zw_step (fun H locs k => lv_tableIn (tgt := 1076) C.1.1 C.1.2.1 dL_law_33 (by rw [h26]; decide) (by rw [h26]; decide) (by rw [h26]; rfl) (by decide) k) ?_
      exact zw_case_feed C hX hbl hE hL hk.2.2.2.2.2.2.2.2.2.2.2.2.2.2.2.2.2.2.2.2.2.2.2.2.2.2.1 hx3 hi hl kk
    by_cases h27 : op = 27
    · refine zw_step (fun H locs k => lv_tableIn (tgt := 1109) C.1.1 C.1.2.1 dL_law_33 (by rw [h27]; decide) (by rw [h27]; decide) (by rw [h27]; rfl) (by decide) k) ?_
      exact zw_case_wipe C hX hbl hE hL hk.2.2.2.2.2.2.2.2.2.2.2.2.2.2.2.2.2.2.2.2.2.2.2.2.2.2.2.1 hx3 hi hl kk
    by_cases h28 : op = 28
    · refine zw_step (fun H locs k => lv_tableIn (tgt := 1122) C.1.1 C.1.2.1 dL_law_33 (by rw [h28]; decide) (by rw [h28]; decide) (by rw [h28]; rfl) (by decide) k) ?_
      exact zw_case_text C hX hbl hE hL hk.2.2.2.2.2.2.2.2.2.2.2.2.2.2.2.2.2.2.2.2.2.2.2.2.2.2.2.2.1 hx3 hi hl kk
    by_cases h29 : op = 29
    · refine zw_step (fun H locs k => lv_tableIn (tgt := 1135) C.1.1 C.1.2.1 dL_law_33 (by rw [h29]; decide) (by rw [h29]; decide) (by rw [h29]; rfl) (by decide) k) ?_
      exact zw_case_sheet C hX hbl hE hL hk.2.2.2.2.2.2.2.2.2.2.2.2.2.2.2.2.2.2.2.2.2.2.2.2.2.2.2.2.2.1 hx3 hi hl kk
    by_cases h30 : op = 30
    · refine zw_step (fun H locs k => lv_tableIn (tgt := 1178) C.1.1 C.1.2.1 dL_law_33 (by rw [h30]; decide) (by rw [h30]; decide) (by rw [h30]; rfl) (by decide) k) ?_
      exact zw_case_write C hX hbl hE hL hk.2.2.2.2.2.2.2.2.2.2.2.2.2.2.2.2.2.2.2.2.2.2.2.2.2.2.2.2.2.2.1 hx3 hi hl kk
    by_cases h31 : op = 31
    · refine zw_step (fun H locs k => lv_tableIn (tgt := 1252) C.1.1 C.1.2.1 dL_law_33 (by rw [h31]; decide) (by rw [h31]; decide) (by rw [h31]; rfl) (by decide) k) ?_
      exact zw_case_copy C hX hbl hE hL hk.2.2.2.2.2.2.2.2.2.2.2.2.2.2.2.2.2.2.2.2.2.2.2.2.2.2.2.2.2.2.2.1 hx3 hi hl kk
    by_cases h32 : op = 32
    · refine zw_step (fun H locs k => lv_tableIn (tgt := 1315) C.1.1 C.1.2.1 dL_law_33 (by rw [h32]; decide) (by rw [h32]; decide) (by rw [h32]; rfl) (by decide) k) ?_
      exact zw_case_lays C hX hbl hE hL hk.2.2.2.2.2.2.2.2.2.2.2.2.2.2.2.2.2.2.2.2.2.2.2.2.2.2.2.2.2.2.2.2.1 hx3 hi hl kk
    by_cases h33 : op = 33
    · refine zw_step (fun H locs k => lv_tableIn (tgt := 1348) C.1.1 C.1.2.1 dL_law_33 (by rw [h33]; decide) (by rw [h33]; decide) (by rw [h33]; rfl) (by decide) k) ?_
      exact zw_case_show C hX hbl hE hL hk.2.2.2.2.2.2.2.2.2.2.2.2.2.2.2.2.2.2.2.2.2.2.2.2.2.2.2.2.2.2.2.2.2.1 hx3 hi hl kk
    by_cases h34 : op = 34
    · refine zw_step (fun H locs k => lv_tableIn (tgt := 1381) C.1.1 C.1.2.1 dL_law_33 (by rw [h34]; decide) (by rw [h34]; decide) (by rw [h34]; rfl) (by decide) k) ?_
      exact zw_case_read C hX hbl hE hL hk.2.2.2.2.2.2.2.2.2.2.2.2.2.2.2.2.2.2.2.2.2.2.2.2.2.2.2.2.2.2.2.2.2.2.1 hx3 hi hl kk
    by_cases h35 : op = 35
    · refine zw_step (fun H locs k => lv_tableIn (tgt := 1414) C.1.1 C.1.2.1 dL_law_33 (by rw [h35]; decide) (by rw [h35]; decide) (by rw [h35]; rfl) (by decide) k) ?_
      exact zw_case_image C hX hbl hE hL hk.2.2.2.2.2.2.2.2.2.2.2.2.2.2.2.2.2.2.2.2.2.2.2.2.2.2.2.2.2.2.2.2.2.2.2.1 hx3 hi hl kk
    by_cases h36 : op = 36
    · refine zw_step (fun H locs k => lv_tableIn (tgt := 1427) C.1.1 C.1.2.1 dL_law_33 (by rw [h36]; decide) (by rw [h36]; decide) (by rw [h36]; rfl) (by decide) k) ?_
      exact zw_case_undo C hX hbl hE hL hk.2.2.2.2.2.2.2.2.2.2.2.2.2.2.2.2.2.2.2.2.2.2.2.2.2.2.2.2.2.2.2.2.2.2.2.2.1 hx3 hi hl kk
    by_cases h37 : op = 37
    · refine zw_step (fun H locs k => lv_tableIn (tgt := 1440) C.1.1 C.1.2.1 dL_law_33 (by rw [h37]; decide) (by rw [h37]; decide) (by rw [h37]; rfl) (by decide) k) ?_
      exact zw_case_tear C hX hbl hE hL hk.2.2.2.2.2.2.2.2.2.2.2.2.2.2.2.2.2.2.2.2.2.2.2.2.2.2.2.2.2.2.2.2.2.2.2.2.2.1 hx3 hi hl kk
    by_cases h38 : op = 38
    · refine zw_step (fun H locs k => lv_tableIn (tgt := 1453) C.1.1 C.1.2.1 dL_law_33 (by rw [h38]; decide) (by rw [h38]; decide) (by rw [h38]; rfl) (by decide) k) ?_
      exact zw_case_count C hX hbl hE hL hk.2.2.2.2.2.2.2.2.2.2.2.2.2.2.2.2.2.2.2.2.2.2.2.2.2.2.2.2.2.2.2.2.2.2.2.2.2.2.1 hx3 hi hl kk
    by_cases h39 : op = 39
    · refine zw_step (fun H locs k => lv_tableIn (tgt := 1476) C.1.1 C.1.2.1 dL_law_33 (by rw [h39]; decide) (by rw [h39]; decide) (by rw [h39]; rfl) (by decide) k) ?_
      exact zw_case_status C hX hbl hE hL hk.2.2.2.2.2.2.2.2.2.2.2.2.2.2.2.2.2.2.2.2.2.2.2.2.2.2.2.2.2.2.2.2.2.2.2.2.2.2.2 hx3 hi hl kk
    refine zw_step (fun H locs k => lv_tableOut (tgt := 1499) C.1.1 C.1.2.1 dL_law_33 (by have q0 : op.toInt ≠ 0 := zz_ne h0; have q1 : op.toInt ≠ 1 := zz_ne h1; have q2 : op.toInt ≠ 2 := zz_ne h2; have q3 : op.toInt ≠ 3 := zz_ne h3; have q4 : op.toInt ≠ 4 := zz_ne h4; have q5 : op.toInt ≠ 5 := zz_ne h5; have q6 : op.toInt ≠ 6 := zz_ne h6; have q7 : op.toInt ≠ 7 := zz_ne h7; have q8 : op.toInt ≠ 8 := zz_ne h8; have q9 : op.toInt ≠ 9 := zz_ne h9; have q10 : op.toInt ≠ 10 := zz_ne h10; have q11 : op.toInt ≠ 11 := zz_ne h11; have q12 : op.toInt ≠ 12 := zz_ne h12; have q13 : op.toInt ≠ 13 := zz_ne h13; have q14 : op.toInt ≠ 14 := zz_ne h14; have q15 : op.toInt ≠ 15 := zz_ne h15; have q16 : op.toInt ≠ 16 := zz_ne h16; have q17 : op.toInt ≠ 17 := zz_ne h17; have q18 : op.toInt ≠ 18 := zz_ne h18; have q19 : op.toInt ≠ 19 := zz_ne h19; have q20 : op.toInt ≠ 20 := zz_ne h20; have q21 : op.toInt ≠ 21 := zz_ne h21; have q22 : op.toInt ≠ 22 := zz_ne h22; have q23 : op.toInt ≠ 23 := zz_ne h23; have q24 : op.toInt ≠ 24 := zz_ne h24; have q25 : op.toInt ≠ 25 := zz_ne h25; have q26 : op.toInt ≠ 26 := zz_ne h26; have q27 : op.toInt ≠ 27 := zz_ne h27; have q28 : op.toInt ≠ 28 := zz_ne h28; have q29 : op.toInt ≠ 29 := zz_ne h29; have q30 : op.toInt ≠ 30 := zz_ne h30; have q31 : op.toInt ≠ 31 := zz_ne h31; have q32 : op.toInt ≠ 32 := zz_ne h32; have q33 : op.toInt ≠ 33 := zz_ne h33; have q34 : op.toInt ≠ 34 := zz_ne h34; have q35 : op.toInt ≠ 35 := zz_ne h35; have q36 : op.toInt ≠ 36 := zz_ne h36; have q37 : op.toInt ≠ 37 := zz_ne h37; have q38 : op.toInt ≠ 38 := zz_ne h38; have q39 : op.toInt ≠ 39 := zz_ne h39; omega) (by decide) k) ?_
    exact kk M hI
