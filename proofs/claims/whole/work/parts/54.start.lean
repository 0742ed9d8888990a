theorem hdW_X8_init : yX8_init.cls ≠ "java/lang/invoke/MethodHandle" ∧ yX8_init.cls ≠ "java/lang/invoke/VarHandle" ∧ (parseMethodDescriptor yX8_init.desc).map (fun d => d.parameters.length) = some 0 := by decide +kernel
theorem hdW_X9_init : yX9_init.cls ≠ "java/lang/invoke/MethodHandle" ∧ yX9_init.cls ≠ "java/lang/invoke/VarHandle" ∧ (parseMethodDescriptor yX9_init.desc).map (fun d => d.parameters.length) = some 0 := by decide +kernel
set_option maxRecDepth 100000 in
set_option maxHeartbeats 8000000 in
theorem whole_of {Inv : zz_M → Prop} (hok : zw_ok Inv) (hinit : ∃ M0 : zz_M, f_X9_init95 zk_M1 = some ((), M0) ∧ Inv M0) {p : Program} {e : Env} {s : State} {m : MethodId} {below : List Frame} {meth : Method} {c : Code} (l : Launch) {b L : Nat} {xs : Nat → Int32} (hL : L ≤ 3072) (C0 : lw_At p s m meth c b L xs) : W p l e room_1 s m #[Value.ref b] below meth c s.heap [] 0 0 (lw_Z below #[Value.ref b] s) (entryFrame m ([Value.ref b] : List Value).toArray 4) := by
  obtain ⟨E, hE, hK, hN, hO, hAO⟩ := zw_env C0
  obtain ⟨hx, hb, hr, hml, hown, hts, hX, hbl, hlocks, hgv⟩ := id C0
  obtain ⟨M0, hM0, hI0⟩ := hinit
  have C : zz_C E RL code 4 wsL_law p s m #[Value.ref b] meth c := ⟨⟨hx, hb, hml, hown, fun w h => hts w (wsL_law_in w h)⟩, ⟨hK, hN, hO⟩, hlocks⟩
  have hb0 : E.1 ≤ s.heap.size := by rw [hE]; exact Nat.le_refl _
  have hl := lv_entry ([Value.ref b]) (n := 4) (Nat.le_of_ble_eq_true rfl)
  rw [lg_entry_eq]
  generalize (lg_sl ([Value.ref b]) ++ List.replicate (4 - (lg_sl ([Value.ref b])).length) Slot.unset).toArray = ls at hl ⊢
  have hl : lv_has ls 4 [(0, .ref b)] := hl
  suffices hz : zk_Z E p l e room_1 s m #[Value.ref b] below meth c 0 0 (lw_Z below #[Value.ref b] s) [] [] (F0 m 0 ls []) from hz s.heap [] ⟨fun k q h => by simp [zk_W] at h, by simp [hE]⟩ va_S.rf
  refine zk_new (ci := 8) (fs := [.null, .null, .int 0, .null, .null, .null, .null, .null, .null, .null, .null]) (nx := 0) (a := 0) C hb0 rfl rfl inlX8 tyX8 tyX8_ok (List.mem_of_getElem? (i := 0) rfl) (List.mem_of_getElem? (i := 1) rfl) (List.mem_of_getElem? (i := 2) rfl) rfl (fun j hj => by rcases (show j = 0 ∨ j = 1 ∨ j = 2 ∨ j = 3 ∨ j = 4 ∨ j = 5 ∨ j = 6 ∨ j = 7 ∨ j = 8 ∨ j = 9 ∨ j = 10 by omega) with rfl | rfl | rfl | rfl | rfl | rfl | rfl | rfl | rfl | rfl | rfl <;> rfl) (Nat.le_of_ble_eq_true rfl) (Nat.le_of_ble_eq_true rfl) dL_law_0 ?_
  refine zk_cs (cl' := 1) (sl' := 11) rfl rfl ?_
  refine zk_step (fun H locs k => lv_dup hx hb dL_law_3 rfl k) ?_
  refine zk_callI (X' := zk_fd E) (As := []) (rest := [.ref (E.1 + (0 + 0))]) C hAO (k_X8_init l E) (cwI 0 C.1.2.2.2.2 gL_law_X8_init rfl rfl rfl (C.1.2.2.2.2 _ (List.mem_of_getElem? (i := 2) rfl)) (C.1.2.2.2.2 _ (List.mem_of_getElem? (i := 7) rfl)) (C.1.2.2.2.2 _ (List.mem_of_getElem? (i := 8) rfl)) rfl hdW_X8_init ⟨Nat.le_of_ble_eq_true rfl, Nat.le_of_ble_eq_true rfl⟩) rfl hl.1 rfl (Nat.le_of_ble_eq_true rfl) dL_law_4 (Nat.le_of_ble_eq_true rfl) (Nat.le_of_ble_eq_true rfl) ?_
  refine zk_cs (cl' := 129) (sl' := 2209) rfl rfl ?_
  refine zk_astore_n (lv' := [(1, .ref (E.1 + (0 + 0))), (0, .ref b)]) C dL_law_7 rfl hl (by decide) rfl (fun ls hl => ?_)
  refine zk_new (ci := 9) (fs := [.null, .null, .null, .null, .int 0, .null, .int 0, .int 0, .int 0, .int 0, .long 0, .int 0, .int 0, .null, .null, .null, .null, .null, .null, .int 0]) (nx := 129) (a := 0) C hb0 rfl rfl inlX9 tyX9 tyX9_ok (List.mem_of_getElem? (i := 3) rfl) (List.mem_of_getElem? (i := 4) rfl) (List.mem_of_getElem? (i := 5) rfl) rfl (fun j hj => by rcases (show j = 0 ∨ j = 1 ∨ j = 2 ∨ j = 3 ∨ j = 4 ∨ j = 5 ∨ j = 6 ∨ j = 7 ∨ j = 8 ∨ j = 9 ∨ j = 10 ∨ j = 11 ∨ j = 12 ∨ j = 13 ∨ j = 14 ∨ j = 15 ∨ j = 16 ∨ j = 17 ∨ j = 18 ∨ j = 19 by omega) with rfl | rfl | rfl | rfl | rfl | rfl | rfl | rfl | rfl | rfl | rfl | rfl | rfl | rfl | rfl | rfl | rfl | rfl | rfl | rfl <;> rfl) (Nat.le_of_ble_eq_true rfl) (Nat.le_of_ble_eq_true rfl) dL_law_8 ?_
  refine zk_cs (cl' := 130) (sl' := 2229) rfl rfl ?_
  refine zk_step (fun H locs k => lv_dup hx hb dL_law_11 rfl k) ?_
  intro H locs hP hS
  refine va_callv (va_runI (b := E.1 + 129) (As := []) (rest := [.ref (E.1 + 129)]) C.1 (k_X9_init l E () M0 hM0) (cwI 0 C.1.2.2.2.2 gL_law_X9_init rfl rfl rfl (C.1.2.2.2.2 _ (List.mem_of_getElem? (i := 5) rfl)) (C.1.2.2.2.2 _ (List.mem_of_getElem? (i := 107) rfl)) (C.1.2.2.2.2 _ (List.mem_of_getElem? (i := 108) rfl)) rfl hdW_X9_init ⟨Nat.le_of_ble_eq_true rfl, Nat.le_of_ble_eq_true rfl⟩) ⟨zk_blind E _ _, fun U hU hW => ⟨rfl, by rw [hU]; exact hP, va_K.moved hW.alike C.2.1.1, C.2.1.2.1.warm hW, C.2.1.2.2.warm hW (by rw [hU]; exact hS.2.1), hAO.moved hW.alike⟩⟩ rfl rfl hl.1 rfl (Nat.le_of_ble_eq_true rfl) dL_law_12 ⟨Nat.le_of_ble_eq_true rfl, Nat.le_of_ble_eq_true rfl⟩) hS (fun q _ h => h) (fun q h => h) (fun u t H1 locs1 ht hvm hw hB hz1 hk1 hS1 => ?_)
  have hw : u = M0 := hw
  rw [hw] at hB
  have hP1 : va_P E.2.1 vwCl (zz_W E M0) H1 := by rw [← ht]; exact hB
  refine W.cs (cells' := 141) (slots' := 4382) rfl rfl ?_
  refine lv_astore_n (lv' := [(2, .ref (E.1 + 129)), (1, .ref (E.1 + (0 + 0))), (0, .ref b)]) hx hb dL_law_15 rfl hl (by decide) rfl (fun ls hl => ?_)
  refine lv_iconst (v := 0) hx hb dL_law_16 (by decide) ?_
  refine lv_istore_n (lv' := [(3, .int 0), (2, .ref (E.1 + 129)), (1, .ref (E.1 + (0 + 0))), (0, .ref b)]) hx hb dL_law_17 rfl hl (by decide) rfl (fun ls hl => ?_)
  exact zw_loop C hX hbl hE hL hr hok (L + 1) 0 0 M0 nI_0.symm (by omega) (by omega) hI0 ls (lv_sub hl [3, 2, 1, 0] rfl) H1 locs1 hP1 hS1
