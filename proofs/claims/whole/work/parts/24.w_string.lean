section ZS
variable {p : Program} {l : Launch} {e : Env} {R : Room} {s : State} {m : MethodId} {args : Array Value} {below : List Frame} {meth : Method} {c : Code}
variable {E : zz_E} {own : String} {cc : ByteArray} {nL : Nat} {Ts : List Cond} {ρ σ : Type} {Q : ρ → zz_M → State → Prop} {o o1 o2 : Option (ρ × zz_M)} {M : zz_M} {pc : Nat} {ls : Array Slot} {rest : List Value} {cl sl : Nat}
theorem zz_if_eqF (C : zz_C E own cc nL Ts p s m args meth c) {x : Int32} {off : Int} {tgt : Nat} (hdg : decode cc pc = .ok (.ifCond .eq off, 3)) (ht : (pc : Int) + off = (tgt : Int)) (hx : ¬ x = 0) (k : zl_Z E p l e R s m args below meth c cl sl Q o M (F0 m (pc + 3) ls rest)) : zl_Z E p l e R s m args below meth c cl sl Q o M (F0 m pc ls (.int x :: rest)) := fun r M' ho H locs hP hS => lv_if_eq C.1.1 C.1.2.1 hdg ht (fun h => absurd h hx) (fun _ => k r M' ho H locs hP hS)
theorem zz_if_neF (C : zz_C E own cc nL Ts p s m args meth c) {x : Int32} {off : Int} {tgt : Nat} (hdg : decode cc pc = .ok (.ifCond .ne off, 3)) (ht : (pc : Int) + off = (tgt : Int)) (hx : x = 0) (k : zl_Z E p l e R s m args below meth c cl sl Q o M (F0 m (pc + 3) ls rest)) : zl_Z E p l e R s m args below meth c cl sl Q o M (F0 m pc ls (.int x :: rest)) := fun r M' ho H locs hP hS => lv_if_ne C.1.1 C.1.2.1 hdg ht (fun h => absurd hx h) (fun _ => k r M' ho H locs hP hS)
theorem zz_if_ltF (C : zz_C E own cc nL Ts p s m args meth c) {x : Int32} {off : Int} {tgt : Nat} (hdg : decode cc pc = .ok (.ifCond .lt off, 3)) (ht : (pc : Int) + off = (tgt : Int)) (hx : ¬ x < 0) (k : zl_Z E p l e R s m args below meth c cl sl Q o M (F0 m (pc + 3) ls rest)) : zl_Z E p l e R s m args below meth c cl sl Q o M (F0 m pc ls (.int x :: rest)) := fun r M' ho H locs hP hS => lv_if_lt C.1.1 C.1.2.1 hdg ht (fun h => absurd h hx) (fun _ => k r M' ho H locs hP hS)
theorem zz_icmp_ltT (C : zz_C E own cc nL Ts p s m args meth c) {x y : Int32} {off : Int} {tgt : Nat} (hdg : decode cc pc = .ok (.if_icmp .lt off, 3)) (ht : (pc : Int) + off = (tgt : Int)) (hx : x < y) (k : zl_Z E p l e R s m args below meth c cl sl Q o M (F0 m tgt ls rest)) : zl_Z E p l e R s m args below meth c cl sl Q o M (F0 m pc ls (.int y :: .int x :: rest)) := fun r M' ho H locs hP hS => lv_icmp_lt C.1.1 C.1.2.1 hdg ht (fun _ => k r M' ho H locs hP hS) (fun h => absurd hx h)
theorem zz_getsC (C : zz_C E own cc nL Ts p s m args meth c) {index : Nat} (hm : Cond.fieldLink own index "java/lang/String" "COMPACT_STRINGS" "Z" ∈ Ts) (hdg : decode cc pc = .ok (.getstatic index, 3)) (k : zl_Z E p l e R s m args below meth c cl sl Q o M (F0 m (pc + 3) ls (.int 1 :: rest))) : zl_Z E p l e R s m args below meth c cl sl Q o M (F0 m pc ls rest) := fun r M' ho H locs hP hS => va_gets C.1.1 C.1.2.1 C.2.1.2.2.2.2.2.2.2.2.1 hS C.1.2.2.2.1 (C.1.2.2.2.2 _ hm) (fun _ h9 => h9) hdg (k r M' ho H locs hP hS)
theorem zz_getsQ2 (C : zz_C E own cc nL Ts p s m args meth c) {index : Nat} (hm : Cond.fieldLink own index "jdk/internal/util/Preconditions" "SIOOBE_FORMATTER" "Ljava/util/function/BiFunction;" ∈ Ts) (hdg : decode cc pc = .ok (.getstatic index, 3)) (k : ∀ v : Value, (∀ x n : Int32, (lg_sl [Value.int x, Value.int n, v]).length ≤ 3) → zl_Z E p l e R s m args below meth c cl sl Q o M (F0 m (pc + 3) ls (v :: rest))) : zl_Z E p l e R s m args below meth c cl sl Q o M (F0 m pc ls rest) := fun r M' ho H locs hP hS => by
  rcases C.2.1.2.2.2.2.2.2.2.2.2 with h | ⟨t, h⟩
  · exact va_gets C.1.1 C.1.2.1 h hS C.1.2.2.2.1 (C.1.2.2.2.2 _ hm) (fun _ h9 => h9) hdg (k _ (fun _ _ => Nat.le_of_ble_eq_true rfl) r M' ho H locs hP hS)
  · exact va_gets C.1.1 C.1.2.1 h hS C.1.2.2.2.1 (C.1.2.2.2.2 _ hm) (fun _ h9 => h9) hdg (k _ (fun _ _ => Nat.le_of_ble_eq_true rfl) r M' ho H locs hP hS)
theorem zz_getV (C : zz_C E own cc nL Ts p s m args meth c) {index i : Nat} (hi : i < 17) (hm : Cond.fieldLink own index "java/lang/String" "value" "[B" ∈ Ts) (hdg : decode cc pc = .ok (.getfield index, 3)) (k : zl_Z E p l e R s m args below meth c cl sl Q o M (F0 m (pc + 3) ls (.ref (E.2.2.2.2.2 i) :: rest))) : zl_Z E p l e R s m args below meth c cl sl Q o M (F0 m pc ls (.ref (E.2.2.2.2.1 i) :: rest)) := fun r M' ho H locs hP hS => vk_getf C.1.1 C.1.2.1 (C.2.1.2.2.2.2.2.2.1.1 i hi).2.2.1 hS C.1.2.2.2.1 (C.1.2.2.2.2 _ hm) (fun _ h9 => h9) hdg (k r M' ho H locs hP hS)
theorem zz_getK (C : zz_C E own cc nL Ts p s m args meth c) {index i : Nat} (hi : i < 17) (hm : Cond.fieldLink own index "java/lang/String" "coder" "B" ∈ Ts) (hdg : decode cc pc = .ok (.getfield index, 3)) (k : zl_Z E p l e R s m args below meth c cl sl Q o M (F0 m (pc + 3) ls (.int 0 :: rest))) : zl_Z E p l e R s m args below meth c cl sl Q o M (F0 m pc ls (.ref (E.2.2.2.2.1 i) :: rest)) := fun r M' ho H locs hP hS => vk_getf C.1.1 C.1.2.1 (C.2.1.2.2.2.2.2.2.1.1 i hi).2.1 hS C.1.2.2.2.1 (C.1.2.2.2.2 _ hm) (fun _ h9 => h9) hdg (k r M' ho H locs hP hS)
theorem zz_blen (C : zz_C E own cc nL Ts p s m args meth c) {i : Nat} (hi : i < 17) (hdg : decode cc pc = .ok (.arraylength, 1)) (k : zl_Z E p l e R s m args below meth c cl sl Q o M (F0 m (pc + 1) ls (.int (Int32.ofNat (zz_len.getD i 0)) :: rest))) : zl_Z E p l e R s m args below meth c cl sl Q o M (F0 m pc ls (.ref (E.2.2.2.2.2 i) :: rest)) := fun r M' ho H locs hP hS => va_tlen C.1.1 C.1.2.1 (C.2.1.2.2.2.2.2.2.1.1 i hi).2.2.2 hS rfl hdg (k r M' ho H locs hP hS)
theorem zz_bald (C : zz_C E own cc nL Ts p s m args meth c) {i : Nat} {x : Int32} (hi : i < 17) (hx : zz_in x (zz_len.getD i 0) = true) (hdg : decode cc pc = .ok (.baload, 1)) (k : zl_Z E p l e R s m args below meth c cl sl Q o M (F0 m (pc + 1) ls (.int ((zz_byt.getD i []).getD (zz_n x) 0) :: rest))) : zl_Z E p l e R s m args below meth c cl sl Q o M (F0 m pc ls (.int x :: .ref (E.2.2.2.2.2 i) :: rest)) := fun r M' ho H locs hP hS => va_tb C.1.1 C.1.2.1 (C.2.1.2.2.2.2.2.2.1.1 i hi).2.2.2 hS (zz_in_vp hx) rfl hdg (k r M' ho H locs hP hS)
theorem zz_nret (C : zz_C E own cc nL Ts p s m args meth c) {v : Int32} {ty : FieldType} (hr : meth.sig.returnType = some ty) (hn : narrow ty (.int v) = .int v) (hdg : decode cc pc = .ok (.ireturn, 1)) : zz_Z E p l e R s m args below meth c (zz_Q (zz_pi E) E below args s) (some (v, M)) M (F0 m pc ls [.int v]) := fun r M' ho H locs hP hS => by
  cases ho
  exact W.zret (v := v) C.1.1 C.1.2.1 hr hn (fun t ht hW => ⟨⟨v, M, rfl, ⟨rfl, rfl⟩, by show va_P E.2.1 vwCl (zz_W E M) t.heap; rw [ht]; exact hP⟩, hS.F ht⟩) hS.2.2 hdg C.2.2
end ZS
/-- the letter of a String -/
def zz_ch (i : Nat) (x : Int32) : Int32 := (zz_byt.getD i []).getD (zz_n x) 0
theorem zz_ch_ok {i : Nat} {x : Int32} (hi : i < 17) (hx : zz_in x (zz_len.getD i 0) = true) : ((zz_ch i x &&& 255).toUInt32 % 65536).toInt32 = zz_ch i x ∧ narrow .char (.int (zz_ch i x)) = .int (zz_ch i x) := by
  have q : ∀ i, i < 17 → ∀ j, j < zz_len.getD i 0 → (((zz_byt.getD i []).getD j 0 &&& 255).toUInt32 % 65536).toInt32 = (zz_byt.getD i []).getD j 0 := by decide +kernel
  have h1 := zz_in_vp hx
  have h2 := q i hi (zz_n x) (Nat.not_le.mp fun z => h1 (Or.inr z))
  refine ⟨h2, ?_⟩
  have h3 := pk_nc (zz_ch i x &&& 255)
  rw [show ((zz_ch i x &&& 255).toUInt32 % 65536).toInt32 = zz_ch i x from h2] at h3
  exact h3
theorem zz_len_ok {i : Nat} (hi : i < 17) : Int32.ofNat (zz_len.getD i 0) >>> ((0 : Int32) &&& 31) = Int32.ofNat (zz_len.getD i 0) := by
  have q : ∀ i, i < 17 → Int32.ofNat (zz_len.getD i 0) >>> ((0 : Int32) &&& 31) = Int32.ofNat (zz_len.getD i 0) := by decide +kernel
  exact q i hi
theorem zz_len_toInt {i : Nat} (hi : i < 17) : (Int32.ofNat (zz_len.getD i 0)).toInt = (zz_len.getD i 0 : Nat) := by
  have q : ∀ i, i < 17 → (Int32.ofNat (zz_len.getD i 0)).toInt = (zz_len.getD i 0 : Nat) := by decide +kernel
  exact q i hi
def f_J0_length_8abf5 (i : Nat) (M : zz_M) : Option (Int32 × zz_M) := some (Int32.ofNat (zz_len.getD i 0), M)
def f_J0_charAt_5068e (i : Nat) (x : Int32) (M : zz_M) : Option (Int32 × zz_M) := if zz_in x (zz_len.getD i 0) = true then some (zz_ch i x, M) else none
theorem hdV_J0_coder_7d493 : yJ0_coder_7d493.cls = RJ0 ∧ yJ0_coder_7d493.cls ≠ "java/lang/invoke/MethodHandle" ∧ yJ0_coder_7d493.cls ≠ "java/lang/invoke/VarHandle" ∧ (parseMethodDescriptor yJ0_coder_7d493.desc).map (fun d => d.parameters.length) = some 0 := by decide +kernel
theorem hdV_J0_isLatin1_aae02 : yJ0_isLatin1_aae02.cls = RJ0 ∧ yJ0_isLatin1_aae02.cls ≠ "java/lang/invoke/MethodHandle" ∧ yJ0_isLatin1_aae02.cls ≠ "java/lang/invoke/VarHandle" ∧ (parseMethodDescriptor yJ0_isLatin1_aae02.desc).map (fun d => d.parameters.length) = some 0 := by decide +kernel
theorem hdS_J3_checkIndex_8e157 : yJ3_checkIndex_8e157.cls ≠ "java/lang/invoke/MethodHandle" ∧ yJ3_checkIndex_8e157.cls ≠ "java/lang/invoke/VarHandle" ∧ (parseMethodDescriptor yJ3_checkIndex_8e157.desc).map (fun d => d.parameters.length) = some 3 := by decide +kernel
theorem hdS_J0_checkIndex_df160 : yJ0_checkIndex_df160.cls ≠ "java/lang/invoke/MethodHandle" ∧ yJ0_checkIndex_df160.cls ≠ "java/lang/invoke/VarHandle" ∧ (parseMethodDescriptor yJ0_checkIndex_df160.desc).map (fun d => d.parameters.length) = some 2 := by decide +kernel
theorem hdS_J1_charAt_3b067 : yJ1_charAt_3b067.cls ≠ "java/lang/invoke/MethodHandle" ∧ yJ1_charAt_3b067.cls ≠ "java/lang/invoke/VarHandle" ∧ (parseMethodDescriptor yJ1_charAt_3b067.desc).map (fun d => d.parameters.length) = some 2 := by decide +kernel
set_option maxRecDepth 100000 in
set_option maxHeartbeats 4000000 in
theorem m_J0_coder_7d493 (l : Launch) (E : zz_E) (i : Nat) (hi : i < 17) (M : zz_M) : zz_Met (zz_pi E) l yJ0_coder_7d493 wsJ0_coder_7d493 1 E [.ref (E.2.2.2.2.1 i)] M (some (0, M)) := by
  refine zz_met (cc := cJ0_coder_7d493) (nL := 1) (ret := (some .byte)) (by decide) rfl (Nat.le_of_ble_eq_true rfl) ?_
  intro p e s m below meth c C hr ls hl
  have C : zz_C E RJ0 cJ0_coder_7d493 1 wsJ0_coder_7d493 p s m _ meth c := C
  have hl : lv_has ls 1 [(0, .ref (E.2.2.2.2.1 i))] := hl
  refine zz_getsC C (List.mem_of_getElem? (i := 1) rfl) dJ0_coder_7d493_0 ?_
  refine zz_if_eqF (tgt := 13) C dJ0_coder_7d493_3 (by decide) (by decide) ?_
  refine zz_aload_n C dJ0_coder_7d493_6 rfl (lv_at hl 0 rfl) ?_
  refine zz_getK C hi (List.mem_of_getElem? (i := 2) rfl) dJ0_coder_7d493_7 ?_
  refine zz_goto (tgt := 14) C dJ0_coder_7d493_10 (by decide) ?_
  exact zz_nret C hr rfl dJ0_coder_7d493_14
set_option maxRecDepth 100000 in
set_option maxHeartbeats 4000000 in
theorem m_J0_length_8abf5 (l : Launch) (E : zz_E) (i : Nat) (hi : i < 17) (M : zz_M) : zz_Met (zz_pi E) l yJ0_length_8abf5 wsJ0_length_8abf5 3 E [.ref (E.2.2.2.2.1 i)] M (f_J0_length_8abf5 i M) := by
  have e0 : f_J0_length_8abf5 i M = zz_bd (some ((0 : Int32), M)) (fun r M1 => some (Int32.ofNat (zz_len.getD i 0) >>> (r &&& 31), M1)) := by
    rw [zz_bd_some, zz_len_ok hi]; rfl
  rw [e0]
  refine zz_met (cc := cJ0_length_8abf5) (nL := 1) (ret := (some .int)) (by decide) rfl (Nat.le_of_ble_eq_true rfl) ?_
  intro p e s m below meth c C hr ls hl
  have C : zz_C E RJ0 cJ0_length_8abf5 1 wsJ0_length_8abf5 p s m _ meth c := C
  have hl : lv_has ls 1 [(0, .ref (E.2.2.2.2.1 i))] := hl
  refine zz_aload_n C dJ0_length_8abf5_0 rfl (lv_at hl 0 rfl) ?_
  refine zz_getV C hi (List.mem_of_getElem? (i := 1) rfl) dJ0_length_8abf5_1 ?_
  refine zz_blen C hi dJ0_length_8abf5_4 ?_
  refine zz_aload_n C dJ0_length_8abf5_5 rfl (lv_at hl 0 rfl) ?_
  refine zz_callXi (As := []) (rest := [.int (Int32.ofNat (zz_len.getD i 0))]) C (m_J0_coder_7d493 l E i hi M) (cwV 0 C.1.2.2.2.2 gJ0_length_8abf5_J0_coder_7d493 rfl rfl rfl hdV_J0_coder_7d493 ⟨Nat.le_of_ble_eq_true rfl, Nat.le_of_ble_eq_true rfl⟩) hi rfl hl.1 rfl (Nat.le_of_ble_eq_true rfl) dJ0_length_8abf5_6 (fun r M1 _ => ?_)
  refine zz_ishr C dJ0_length_8abf5_9 ?_
  exact zz_iret C hr dJ0_length_8abf5_10
set_option maxRecDepth 100000 in
set_option maxHeartbeats 4000000 in
theorem m_J0_isLatin1_aae02 (l : Launch) (E : zz_E) (i : Nat) (hi : i < 17) (M : zz_M) : zz_Met (zz_pi E) l yJ0_isLatin1_aae02 wsJ0_isLatin1_aae02 1 E [.ref (E.2.2.2.2.1 i)] M (some (1, M)) := by
  refine zz_met (cc := cJ0_isLatin1_aae02) (nL := 1) (ret := (some .boolean)) (by decide) rfl (Nat.le_of_ble_eq_true rfl) ?_
  intro p e s m below meth c C hr ls hl
  have C : zz_C E RJ0 cJ0_isLatin1_aae02 1 wsJ0_isLatin1_aae02 p s m _ meth c := C
  have hl : lv_has ls 1 [(0, .ref (E.2.2.2.2.1 i))] := hl
  refine zz_getsC C (List.mem_of_getElem? (i := 1) rfl) dJ0_isLatin1_aae02_0 ?_
  refine zz_if_eqF (tgt := 17) C dJ0_isLatin1_aae02_3 (by decide) (by decide) ?_
  refine zz_aload_n C dJ0_isLatin1_aae02_6 rfl (lv_at hl 0 rfl) ?_
  refine zz_getK C hi (List.mem_of_getElem? (i := 2) rfl) dJ0_isLatin1_aae02_7 ?_
  refine zz_if_neF (tgt := 17) C dJ0_isLatin1_aae02_10 (by decide) rfl ?_
  refine zz_iconst (v := 1) C dJ0_isLatin1_aae02_13 (by decide) ?_
  refine zz_goto (tgt := 18) C dJ0_isLatin1_aae02_14 (by decide) ?_
  exact zz_nret C hr rfl dJ0_isLatin1_aae02_18
set_option maxRecDepth 100000 in
set_option maxHeartbeats 4000000 in
theorem m_J3_checkIndex_8e157 (l : Launch) (E : zz_E) (x n : Int32) (v : Value) (hv3 : (lg_sl [Value.int x, Value.int n, v]).length ≤ 3) (h1 : ¬ x < 0) (h2 : x < n) (M : zz_M) : zz_Met (zz_pi E) l yJ3_checkIndex_8e157 wsJ3_checkIndex_8e157 1 E [.int x, .int n, v] M (some (x, M)) := by
  refine zz_met (cc := cJ3_checkIndex_8e157) (nL := 3) (ret := (some .int)) (by decide) rfl hv3 ?_
  intro p e s m below meth c C hr ls hl
  have C : zz_C E RJ3 cJ3_checkIndex_8e157 3 wsJ3_checkIndex_8e157 p s m _ meth c := C
  have hl : lv_has ls 3 [(0, .int x), (1, .int n), (2, v)] := hl
  refine zz_iload_n C dJ3_checkIndex_8e157_0 rfl (lv_at hl 0 rfl) ?_
  refine zz_if_ltF (tgt := 9) C dJ3_checkIndex_8e157_1 (by decide) h1 ?_
  refine zz_iload_n C dJ3_checkIndex_8e157_4 rfl (lv_at hl 0 rfl) ?_
  refine zz_iload_n C dJ3_checkIndex_8e157_5 rfl (lv_at hl 1 rfl) ?_
  refine zz_icmp_ltT (tgt := 16) C dJ3_checkIndex_8e157_6 (by decide) h2 ?_
  refine zz_iload_n C dJ3_checkIndex_8e157_16 rfl (lv_at hl 0 rfl) ?_
  exact zz_iret C hr dJ3_checkIndex_8e157_17
set_option maxRecDepth 100000 in
set_option maxHeartbeats 4000000 in
theorem m_J0_checkIndex_df160 (l : Launch) (E : zz_E) (x n : Int32) (h1 : ¬ x < 0) (h2 : x < n) (M : zz_M) : zz_Met (zz_pv E) l yJ0_checkIndex_df160 wsJ0_checkIndex_df160 2 E [.int x, .int n] M (zz_bd (some (x, M)) (fun _ M1 => some ((), M1))) := by
  refine zz_met (cc := cJ0_checkIndex_df160) (nL := 2) (ret := none) (by decide) rfl (Nat.le_of_ble_eq_true rfl) ?_
  intro p e s m below meth c C hr ls hl
  have C : zz_C E RJ0 cJ0_checkIndex_df160 2 wsJ0_checkIndex_df160 p s m _ meth c := C
  have hl : lv_has ls 2 [(0, .int x), (1, .int n)] := hl
  refine zz_iload_n C dJ0_checkIndex_df160_0 rfl (lv_at hl 0 rfl) ?_
  refine zz_iload_n C dJ0_checkIndex_df160_1 rfl (lv_at hl 1 rfl) ?_
  refine zz_getsQ2 C (List.mem_of_getElem? (i := 1) rfl) dJ0_checkIndex_df160_2 (fun v hv => ?_)
  refine zz_callSi (As := [.int x, .int n, v]) (rest := []) C (m_J3_checkIndex_8e157 l E x n v (hv x n) h1 h2 M) (va_cwS 3 C.1.2.2.2.2 gJ0_checkIndex_df160_J3_checkIndex_8e157 rfl rfl rfl hdS_J3_checkIndex_8e157 ⟨Nat.le_of_ble_eq_true rfl, Nat.le_of_ble_eq_true rfl⟩) rfl hl.1 rfl (Nat.le_of_ble_eq_true rfl) dJ0_checkIndex_df160_5 (fun r M1 => ?_)
  refine zz_pop C dJ0_checkIndex_df160_8 rfl ?_
  exact zz_vret C hr dJ0_checkIndex_df160_9
set_option maxRecDepth 100000 in
set_option maxHeartbeats 4000000 in
theorem m_J1_charAt_3b067 (l : Launch) (E : zz_E) (i : Nat) (x : Int32) (hi : i < 17) (hx : zz_in x (zz_len.getD i 0) = true) (M : zz_M) : zz_Met (zz_pi E) l yJ1_charAt_3b067 wsJ1_charAt_3b067 3 E [.ref (E.2.2.2.2.2 i), .int x] M (zz_bd (zz_bd (some (x, M)) (fun _ M1 => some ((), M1))) (fun _ M1 => some (((zz_ch i x &&& 255).toUInt32 % 65536).toInt32, M1))) := by
  have h0 : 0 ≤ x.toInt ∧ x.toInt < (zz_len.getD i 0 : Nat) := by simpa [zz_in] using hx
  have h1 : ¬ x < 0 := zz_nn h0.1
  have h2 : x < Int32.ofNat (zz_len.getD i 0) := by rw [Int32.lt_iff_toInt_lt, zz_len_toInt hi]; exact h0.2
  refine zz_met (cc := cJ1_charAt_3b067) (nL := 2) (ret := (some .char)) (by decide) rfl (Nat.le_of_ble_eq_true rfl) ?_
  intro p e s m below meth c C hr ls hl
  have C : zz_C E RJ1 cJ1_charAt_3b067 2 wsJ1_charAt_3b067 p s m _ meth c := C
  have hl : lv_has ls 2 [(0, .ref (E.2.2.2.2.2 i)), (1, .int x)] := hl
  refine zz_iload_n C dJ1_charAt_3b067_0 rfl (lv_at hl 1 rfl) ?_
  refine zz_aload_n C dJ1_charAt_3b067_1 rfl (lv_at hl 0 rfl) ?_
  refine zz_blen C hi dJ1_charAt_3b067_2 ?_
  refine zz_callSv (As := [.int x, .int (Int32.ofNat (zz_len.getD i 0))]) (rest := []) C (m_J0_checkIndex_df160 l E x _ h1 h2 M) (va_cwS 2 C.1.2.2.2.2 gJ1_charAt_3b067_J0_checkIndex_df160 rfl rfl rfl hdS_J0_checkIndex_df160 ⟨Nat.le_of_ble_eq_true rfl, Nat.le_of_ble_eq_true rfl⟩) rfl hl.1 rfl (Nat.le_of_ble_eq_true rfl) dJ1_charAt_3b067_3 (fun _ M1 => ?_)
  refine zz_aload_n C dJ1_charAt_3b067_6 rfl (lv_at hl 0 rfl) ?_
  refine zz_iload_n C dJ1_charAt_3b067_7 rfl (lv_at hl 1 rfl) ?_
  refine zz_bald C hi hx dJ1_charAt_3b067_8 ?_
  refine zz_sipush (v := 255) C dJ1_charAt_3b067_9 (by decide) ?_
  refine zz_iand C dJ1_charAt_3b067_12 ?_
  refine zz_i2c C dJ1_charAt_3b067_13 ?_
  exact zz_nret C hr (pk_nc _) dJ1_charAt_3b067_14
set_option maxRecDepth 100000 in
set_option maxHeartbeats 4000000 in
theorem m_J0_charAt_5068e (l : Launch) (E : zz_E) (i : Nat) (x : Int32) (hi : i < 17) (M : zz_M) : zz_Met (zz_pi E) l yJ0_charAt_5068e wsJ0_charAt_5068e 4 E [.ref (E.2.2.2.2.1 i), .int x] M (f_J0_charAt_5068e i x M) := by
  by_cases hx : ¬ zz_in x (zz_len.getD i 0) = true
  · intro r M1 h
    rw [f_J0_charAt_5068e, if_neg hx] at h
    nomatch h
  have hx := Classical.not_not.mp hx
  have e0 : f_J0_charAt_5068e i x M = zz_bd (some ((1 : Int32), M)) (fun r M1 => zz_bd (zz_bd (zz_bd (some (x, M1)) (fun _ M1 => some ((), M1))) (fun _ M1 => some (((zz_ch i x &&& 255).toUInt32 % 65536).toInt32, M1))) (fun r M2 => if narrow .char (.int r) = .int r then some (r, M2) else none)) := by
    obtain ⟨q1, q2⟩ := zz_ch_ok hi hx
    simp only [zz_bd_some]
    rw [q1, if_pos q2, f_J0_charAt_5068e, if_pos hx]
  rw [e0]
  refine zz_met (cc := cJ0_charAt_5068e) (nL := 2) (ret := (some .char)) (by decide) rfl (Nat.le_of_ble_eq_true rfl) ?_
  intro p e s m below meth c C hr ls hl
  have C : zz_C E RJ0 cJ0_charAt_5068e 2 wsJ0_charAt_5068e p s m _ meth c := C
  have hl : lv_has ls 2 [(0, .ref (E.2.2.2.2.1 i)), (1, .int x)] := hl
  refine zz_aload_n C dJ0_charAt_5068e_0 rfl (lv_at hl 0 rfl) ?_
  refine zz_callXi (As := []) (rest := []) C (m_J0_isLatin1_aae02 l E i hi M) (cwV 0 C.1.2.2.2.2 gJ0_charAt_5068e_J0_isLatin1_aae02 rfl rfl rfl hdV_J0_isLatin1_aae02 ⟨Nat.le_of_ble_eq_true rfl, Nat.le_of_ble_eq_true rfl⟩) hi rfl hl.1 rfl (Nat.le_of_ble_eq_true rfl) dJ0_charAt_5068e_1 (fun r M1 hq => ?_)
  cases hq
  refine zz_if_eqF (tgt := 16) C dJ0_charAt_5068e_4 (by decide) (by decide) ?_
  refine zz_aload_n C dJ0_charAt_5068e_7 rfl (lv_at hl 0 rfl) ?_
  refine zz_getV C hi (List.mem_of_getElem? (i := 1) rfl) dJ0_charAt_5068e_8 ?_
  refine zz_iload_n C dJ0_charAt_5068e_11 rfl (lv_at hl 1 rfl) ?_
  refine zz_callSi (As := [.ref (E.2.2.2.2.2 i), .int x]) (rest := []) C (m_J1_charAt_3b067 l E i x hi hx M) (va_cwS 2 C.1.2.2.2.2 gJ0_charAt_5068e_J1_charAt_3b067 rfl rfl rfl hdS_J1_charAt_3b067 ⟨Nat.le_of_ble_eq_true rfl, Nat.le_of_ble_eq_true rfl⟩) rfl hl.1 rfl (Nat.le_of_ble_eq_true rfl) dJ0_charAt_5068e_12 (fun r M1 => ?_)
  refine zz_ite (fun hn => ?_) (fun _ => zz_none)
  exact zz_nret C hr hn dJ0_charAt_5068e_15
