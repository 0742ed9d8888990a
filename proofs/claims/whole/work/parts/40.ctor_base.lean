/-! CONSTRUCTORS: the block grows, a cell behind the other. The world is 'pre ++ X': what stood there before, and what this constructor has made; a = pre.length -/
def zk_W (b : Nat) (cs : List va_E) : va_W := cs.mapIdx (fun k e => (b + k, e))
def zk_P (E : zz_E) (cs : List va_E) (H : Heap) : Prop := va_P E.2.1 vwCl (zk_W E.1 cs) H ∧ H.size = E.1 + cs.length
def zk_O (U : State) : Prop := va_AO "FortyDips$Candle" U ∧ va_AO "FortyDips$Sheet" U ∧ va_AO "FortyDips$Vat" U
theorem zk_O.moved {u U : State} (hvm : u.vm.Alike U.vm) (h : zk_O u) : zk_O U := ⟨h.1.moved hvm, h.2.1.moved hvm, h.2.2.moved hvm⟩
theorem zk_at {b : Nat} {cs : List va_E} {k : Nat} {e : va_E} (h : cs[k]? = some e) : (zk_W b cs)[k]? = some (b + k, e) := by
  simp [zk_W, List.getElem?_mapIdx, h]
theorem zk_of {b : Nat} {cs : List va_E} {k : Nat} {q : Nat × va_E} (h : (zk_W b cs)[k]? = some q) : ∃ e, cs[k]? = some e ∧ q = (b + k, e) := by
  simp only [zk_W, List.getElem?_mapIdx, Option.map_eq_some_iff] at h
  obtain ⟨e, h1, h2⟩ := h
  exact ⟨e, h1, h2.symm⟩
theorem zk_set {b : Nat} {cs : List va_E} {k : Nat} {e : va_E} : (zk_W b cs).set k (b + k, e) = zk_W b (cs.set k e) := by
  apply List.ext_getElem?
  intro i
  simp only [zk_W, List.getElem?_set, List.getElem?_mapIdx, List.length_mapIdx]
  by_cases h : k = i
  · subst h
    by_cases hl : k < cs.length <;> simp [hl]
  · simp [h]
theorem zk_app {b : Nat} {cs : List va_E} {e : va_E} : zk_W b cs ++ [(b + cs.length, e)] = zk_W b (cs ++ [e]) := by
  simp [zk_W, List.mapIdx_append]
theorem zk_D (E : zz_E) (cs : List va_E) : va_D (zz_A E) (zk_W E.1 cs) := by
  refine ⟨fun i j p q hi hj hpq => ?_, fun k q hk => ?_⟩
  · obtain ⟨_, -, rfl⟩ := zk_of hi
    obtain ⟨_, -, rfl⟩ := zk_of hj
    exact Nat.add_left_cancel hpq
  · obtain ⟨_, -, rfl⟩ := zk_of hk
    exact Nat.le_add_right _ _
theorem zk_ix {pre X : List va_E} {a j : Nat} (ha : pre.length = a) : (pre ++ X)[a + j]? = X[j]? := by
  subst ha
  rw [List.getElem?_append_right (Nat.le_add_right _ _), Nat.add_sub_cancel_left]
theorem zk_sx {pre X : List va_E} {a j : Nat} {e : va_E} (ha : pre.length = a) : (pre ++ X).set (a + j) e = pre ++ X.set j e := by
  subst ha
  rw [List.set_append_right _ _ (Nat.le_add_right _ _), Nat.add_sub_cancel_left]
def zk_B (E : zz_E) (cs : List va_E) (U : State) : Prop := zk_P E cs U.heap ∧ va_K E.2.1 vwCl (zz_tys E) U ∧ zz_N U ∧ zz_O E U U.heap ∧ zk_O U
theorem zk_blind (E : zz_E) (cs : List va_E) (av : List Value) : FrameBlind (va_Pc av (zk_B E cs)) := fun a U g mk q => by
  obtain ⟨q0, qP, qK, qN, qO, qA⟩ := q
  exact ⟨q0, qP, va_K.moved (u := U) (U := U.calling g mk a) (Vm.Alike.refl U.vm) qK, qN.same rfl, qO.same rfl, zk_O.moved (u := U) (U := U.calling g mk a) (Vm.Alike.refl U.vm) qA⟩
abbrev zk_rm (h mc ms : Nat) : Room := { frames := h, cells := mc, slots := ms, locals := 60 * h }
abbrev zk_pv (E : zz_E) (cs : List va_E) : Array Value → State → Outcome → State → Prop := va_Qv (fun (_ : Unit) => True) (fun _ t => zk_P E cs t.heap) (zz_A E)
def zk_Met (l : Launch) (y : MethodName) (ws : List Cond) (h mc ms : Nat) (E : zz_E) (av : List Value) (cs cs' : List va_E) : Prop :=
  Met l y ws (zk_rm h mc ms) (va_Pc av (zk_B E cs)) (zk_pv E cs') mc ms (zz_A E)
def zk_Z (E : zz_E) (p : Program) (l : Launch) (e : Env) (R : Room) (s : State) (m : MethodId) (args : Array Value) (below : List Frame) (meth : Method) (c : Code) (cl sl : Nat) (Q : State → Prop) (pre X : List va_E) (g : JFrame) : Prop :=
  ∀ (H : Heap) (locs : List Loc), zk_P E (pre ++ X) H → va_S (zz_A E) s.heap H locs → W p l e R s m args below meth c H locs cl sl Q g
theorem zk_met {l : Launch} {y : MethodName} {ws ws' : List Cond} {h mc ms : Nat} {E : zz_E} {av : List Value} {cs cs' : List va_E} {cc : ByteArray} {nL : Nat} {ret : Option FieldType} (hy : plainName y.cls = true) (hw : ws = Cond.code y cc nL ret :: ws') (hn : (lg_sl av).length ≤ nL) (hcs : cs ≠ [])
    (k : ∀ (p : Program) (e : Env) (s : State) (m : MethodId) (below : List Frame) (meth : Method) (c : Code), zz_C E y.cls cc nL ws p s m av.toArray meth c → zk_O s → E.1 ≤ s.heap.size → meth.name = y.name → meth.sig.returnType = ret → ∀ ls : Array Slot, lv_has ls nL (lv_args 0 av) → zk_Z E p l e (zk_rm h mc ms) s m av.toArray below meth c 0 0 (MQ below (zk_pv E cs') av.toArray s mc ms (zz_A E)) [] cs (F0 m 0 ls [])) : zk_Met l y ws h mc ms E av cs cs' := by
  refine Met.ofW (cc := cc) (maxL := nL) (ret := ret) hy hw ?_
  intro p e s m args below meth c s₁ B hml hv
  obtain ⟨rfl, hP, hK, hN, hO, hA⟩ := hv
  have hl := lv_entry av (n := nL) hn
  rw [lg_entry_eq]
  generalize (lg_sl av ++ List.replicate (nL - (lg_sl av).length) Slot.unset).toArray = ls at hl ⊢
  exact k p e s m below meth c ⟨⟨B.exec, B.bytes, hml, findClass_of_methodNamed B.named, atoms_spec (ws := ws) B.pre⟩, ⟨hK, hN, hO⟩, B.notSynchronized⟩ hA (by rw [hP.2]; exact Nat.le_add_right _ _) (name_of_methodNamed B.named B.method).1 B.returns ls hl s.heap [] hP va_S.rf
section ZK
variable {p : Program} {l : Launch} {e : Env} {R : Room} {s : State} {m : MethodId} {args : Array Value} {below : List Frame} {meth : Method} {c : Code}
variable {E : zz_E} {own : String} {cc : ByteArray} {nL : Nat} {Ts : List Cond} {Q : State → Prop} {pre X : List va_E} {pc : Nat} {ls : Array Slot} {rest : List Value} {cl sl a : Nat}
theorem zk_step {g g2 : JFrame} (h : ∀ (H : Heap) (locs : List Loc), W p l e R s m args below meth c H locs cl sl Q g2 → W p l e R s m args below meth c H locs cl sl Q g) (k : zk_Z E p l e R s m args below meth c cl sl Q pre X g2) : zk_Z E p l e R s m args below meth c cl sl Q pre X g := fun H locs hP hS => h H locs (k H locs hP hS)
theorem zk_eq {pre' X' : List va_E} {g : JFrame} (h : pre ++ X = pre' ++ X') (k : zk_Z E p l e R s m args below meth c cl sl Q pre' X' g) : zk_Z E p l e R s m args below meth c cl sl Q pre X g := fun H locs hP hS => k H locs (h ▸ hP) hS
theorem zk_cs {cl' sl' : Nat} {g : JFrame} (h1 : cl = cl') (h2 : sl = sl') (k : zk_Z E p l e R s m args below meth c cl' sl' Q pre X g) : zk_Z E p l e R s m args below meth c cl sl Q pre X g := by subst h1; subst h2; exact k
/-- a new object -/
theorem zk_new (C : zz_C E own cc nL Ts p s m args meth c) (hb0 : E.1 ≤ s.heap.size) (ha : pre.length = a) {nx : Nat} (hx9 : X.length = nx) {Cn : String} {TT : u_T} {N ci index : Nat} (hin : ∀ w ∈ u_ws Cn TT N, w ∈ Ts) (ty : Nat → FieldType) (hty : ∀ k, k < N → parseFieldDescriptor (TT k).2.2.1 = some (ty k)) (hcl : Cond.classLink own index Cn ∈ Ts) (hinst : Cond.instantiable Cn N ∈ Ts) (hini : Cond.initialized Cn ∈ Ts) (hc : vwCl[ci]? = some (Cn, TT, N)) {fs : List Value} (hfs : ∀ j, j < N → defaultValue (ty j) = vp_V fs j) (hcells : cl + 1 ≤ R.cells) (hslots : sl + N ≤ R.slots) (hdg : decode cc pc = .ok (.new index, 3))
    (k : zk_Z E p l e R s m args below meth c (cl + 1) (sl + N) Q pre (X ++ [.inr (ci, fs)]) (F0 m (pc + 3) ls (.ref (E.1 + (a + nx)) :: rest))) : zk_Z E p l e R s m args below meth c cl sl Q pre X (F0 m pc ls rest) := by
  subst hx9
  intro H locs hP hS
  have hKn := C.2.1.1.1 ci _ hc
  have hsz : H.size = E.1 + (a + X.length) := by rw [hP.2, List.length_append, ha]
  refine W.newcK C.1.1 C.1.2.1 C.1.2.2.2.1 (C.1.2.2.2.2 _ hcl) (C.1.2.2.2.2 _ hinst) (C.1.2.2.2.2 _ hini) rfl hdg hcells hslots hKn.2.1 rfl fun H1 kC hkC e1 z1 o1 => ?_
  have hk : ∀ (k : Nat) (x : Nat × va_E), (zk_W E.1 (pre ++ X))[k]? = some x → H1[x.1]? = H[x.1]? := fun k x hx => o1 x.1 ((hP.1 k x hx).lt)
  have hP1 : va_P E.2.1 vwCl (zk_W E.1 (pre ++ X) ++ [(E.1 + (pre ++ X).length, .inr (ci, fs))]) H1 := by
    refine (hP.1.kept hk).app (fun k x hx => ?_)
    have hz : k < 1 := (List.getElem?_eq_some_iff.mp hx).1
    rw [show k = 0 by omega] at hx
    cases hx
    rw [← hP.2]
    exact ⟨_, hc, (u_born ty C.1.2.2.2.2 hin hKn hkC e1 hty).to hfs⟩
  rw [zk_app, List.append_assoc] at hP1
  have k1 := k H1 locs ⟨hP1, by rw [z1, hP.2]; simp [Nat.add_assoc]⟩ ⟨Nat.le_trans hS.1 (by omega), fun x h1 h2 => (o1 x (Nat.lt_of_lt_of_le h1 hS.1)).trans (hS.2.1 x h1 h2), hS.2.2⟩
  rw [← hsz] at k1
  exact k1
/-- a new row of ints -/
theorem zk_newi (C : zz_C E own cc nL Ts p s m args meth c) (ha : pre.length = a) {nx : Nat} (hx9 : X.length = nx) {n : Int32} {N' : Nat} (harr : Cond.arrayClass .int ∈ Ts) (hn : ¬ n < 0) (hN : n.toNatClampNeg = N') (hbytes : N' * 4 ≤ 536870912) (hcells : cl + 1 ≤ R.cells) (hslots : sl + N' ≤ R.slots) (hdg : decode cc pc = .ok (.newarray .int, 2))
    (k : zk_Z E p l e R s m args below meth c (cl + 1) (sl + N') Q pre (X ++ [.inl (E.2.2.1 0, N', .inl (fun _ => 0))]) (F0 m (pc + 2) ls (.ref (E.1 + (a + nx)) :: rest))) : zk_Z E p l e R s m args below meth c cl sl Q pre X (F0 m pc ls (.int n :: rest)) := by
  subst hx9
  intro H locs hP hS
  have hsz : H.size = E.1 + (a + X.length) := by rw [hP.2, List.length_append, ha]
  refine va_newaK (atype := .int) C.1.1 C.1.2.1 (C.1.2.2.2.2 _ harr) rfl hdg rfl hn hN hbytes hcells hslots rfl fun H1 cA e1 z1 o1 hAr hNm => ?_
  have hcA : cA = E.2.2.1 0 := by
    have h1 : s.vm.findClass ("[" ++ FieldType.int.toString) = some (E.2.2.1 0) := (C.2.1.1.2 0 _ rfl).2
    exact Option.some.inj (hNm.symm.trans h1)
  subst hcA
  have hk : ∀ (k : Nat) (x : Nat × va_E), (zk_W E.1 (pre ++ X))[k]? = some x → H1[x.1]? = H[x.1]? := fun k x hx => o1 x.1 ((hP.1 k x hx).lt)
  have hP1 : va_P E.2.1 vwCl (zk_W E.1 (pre ++ X) ++ [(E.1 + (pre ++ X).length, .inl (E.2.2.1 0, N', .inl (fun _ => 0)))]) H1 := by
    refine (hP.1.kept hk).app (fun k x hx => ?_)
    have hz : k < 1 := (List.getElem?_eq_some_iff.mp hx).1
    rw [show k = 0 by omega] at hx
    cases hx
    rw [← hP.2]
    exact e1
  rw [zk_app, List.append_assoc] at hP1
  have k1 := k H1 locs ⟨hP1, by rw [z1, hP.2]; simp [Nat.add_assoc]⟩ ⟨Nat.le_trans hS.1 (by omega), fun x h1 h2 => (o1 x (Nat.lt_of_lt_of_le h1 hS.1)).trans (hS.2.1 x h1 h2), hS.2.2⟩
  rw [← hsz] at k1
  exact k1
/-- a new row of longs -/
theorem zk_newl (C : zz_C E own cc nL Ts p s m args meth c) (ha : pre.length = a) {nx : Nat} (hx9 : X.length = nx) {n : Int32} {N' : Nat} (harr : Cond.arrayClass .long ∈ Ts) (hn : ¬ n < 0) (hN : n.toNatClampNeg = N') (hbytes : N' * 8 ≤ 536870912) (hcells : cl + 1 ≤ R.cells) (hslots : sl + N' ≤ R.slots) (hdg : decode cc pc = .ok (.newarray .long, 2))
    (k : zk_Z E p l e R s m args below meth c (cl + 1) (sl + N') Q pre (X ++ [.inl (E.2.2.1 1, N', .inr (.inl (fun _ => 0)))]) (F0 m (pc + 2) ls (.ref (E.1 + (a + nx)) :: rest))) : zk_Z E p l e R s m args below meth c cl sl Q pre X (F0 m pc ls (.int n :: rest)) := by
  subst hx9
  intro H locs hP hS
  have hsz : H.size = E.1 + (a + X.length) := by rw [hP.2, List.length_append, ha]
  refine va_newaK (atype := .long) C.1.1 C.1.2.1 (C.1.2.2.2.2 _ harr) rfl hdg rfl hn hN hbytes hcells hslots rfl fun H1 cA e1 z1 o1 hAr hNm => ?_
  have hcA : cA = E.2.2.1 1 := by
    have h1 : s.vm.findClass ("[" ++ FieldType.long.toString) = some (E.2.2.1 1) := (C.2.1.1.2 1 _ rfl).2
    exact Option.some.inj (hNm.symm.trans h1)
  subst hcA
  have hk : ∀ (k : Nat) (x : Nat × va_E), (zk_W E.1 (pre ++ X))[k]? = some x → H1[x.1]? = H[x.1]? := fun k x hx => o1 x.1 ((hP.1 k x hx).lt)
  have hP1 : va_P E.2.1 vwCl (zk_W E.1 (pre ++ X) ++ [(E.1 + (pre ++ X).length, .inl (E.2.2.1 1, N', .inr (.inl (fun _ => 0))))]) H1 := by
    refine (hP.1.kept hk).app (fun k x hx => ?_)
    have hz : k < 1 := (List.getElem?_eq_some_iff.mp hx).1
    rw [show k = 0 by omega] at hx
    cases hx
    rw [← hP.2]
    exact e1
  rw [zk_app, List.append_assoc] at hP1
  have k1 := k H1 locs ⟨hP1, by rw [z1, hP.2]; simp [Nat.add_assoc]⟩ ⟨Nat.le_trans hS.1 (by omega), fun x h1 h2 => (o1 x (Nat.lt_of_lt_of_le h1 hS.1)).trans (hS.2.1 x h1 h2), hS.2.2⟩
  rw [← hsz] at k1
  exact k1
/-- a new row of references -/
theorem zk_anew (C : zz_C E own cc nL Ts p s m args meth c) (ha : pre.length = a) {nx : Nat} (hx9 : X.length = nx) {Cn : String} {t index : Nat} {n : Int32} {N' : Nat} (hcl : Cond.classLink own index Cn ∈ Ts) (hover : va_AO Cn s) (ht : (zz_tys E)[t]? = some (E.2.2.1 t, .object Cn)) (hn : ¬ n < 0) (hN : n.toNatClampNeg = N') (hbytes : N' * 4 ≤ 536870912) (hcells : cl + 1 ≤ R.cells) (hslots : sl + N' ≤ R.slots) (hdg : decode cc pc = .ok (.anewarray index, 3))
    (k : zk_Z E p l e R s m args below meth c (cl + 1) (sl + N') Q pre (X ++ [.inl (E.2.2.1 t, N', .inr (.inr (.inr (.inr (fun _ => none)))))]) (F0 m (pc + 3) ls (.ref (E.1 + (a + nx)) :: rest))) : zk_Z E p l e R s m args below meth c cl sl Q pre X (F0 m pc ls (.int n :: rest)) := by
  subst hx9
  intro H locs hP hS
  subst hN
  have hsz : H.size = E.1 + (a + X.length) := by rw [hP.2, List.length_append, ha]
  refine W.anew C.1.1 C.1.2.1 C.1.2.2.2.1 (C.1.2.2.2.2 _ hcl) (va_AO.use hover) rfl hdg rfl hn hbytes hcells hslots fun cA kA comp f1 f2 f3 f4 => ?_
  have hcA : cA = E.2.2.1 t := by
    obtain ⟨_, _, -, -, -, h1⟩ := (C.2.1.1.2 t _ ht).2
    exact Option.some.inj (f1.symm.trans h1)
  subst hcA
  generalize hH1 : H.push ({ cls := E.2.2.1 t, slots := Array.replicate n.toNatClampNeg .null, vm := .none } : Cell) = H1
  have z1 : H1.size = H.size + 1 := by rw [← hH1, Array.size_push]
  have e1 : H1[H.size]? = some (arrV (E.2.2.1 t) n.toNatClampNeg (fun _ => .null)) := by rw [← hH1, Array.getElem?_push_size, ← arrV_new]
  have o1 : ∀ q : Nat, q < H.size → H1[q]? = H[q]? := fun q hq => by rw [← hH1, Array.getElem?_push, if_neg (Nat.ne_of_lt hq)]
  have hk : ∀ (k : Nat) (x : Nat × va_E), (zk_W E.1 (pre ++ X))[k]? = some x → H1[x.1]? = H[x.1]? := fun k x hx => o1 x.1 ((hP.1 k x hx).lt)
  have hP1 : va_P E.2.1 vwCl (zk_W E.1 (pre ++ X) ++ [(E.1 + (pre ++ X).length, .inl (E.2.2.1 t, n.toNatClampNeg, .inr (.inr (.inr (.inr (fun _ => none))))))]) H1 := by
    refine (hP.1.kept hk).app (fun k x hx => ?_)
    have hz : k < 1 := (List.getElem?_eq_some_iff.mp hx).1
    rw [show k = 0 by omega] at hx
    cases hx
    rw [← hP.2]
    exact e1
  rw [zk_app, List.append_assoc] at hP1
  have k1 := k H1 locs ⟨hP1, by rw [z1, hP.2]; simp [Nat.add_assoc]⟩ ⟨Nat.le_trans hS.1 (by omega), fun x h1 h2 => (o1 x (Nat.lt_of_lt_of_le h1 hS.1)).trans (hS.2.1 x h1 h2), hS.2.2⟩
  rw [← hsz] at k1
  exact k1
theorem zk_put (C : zz_C E own cc nL Ts p s m args meth c) (ha : pre.length = a) (j : Nat) {ci N index : Nat} {Cn : String} {TT : u_T} {fs : List Value} {v : Value} (he : X[j]? = some (.inr (ci, fs))) (hc : vwCl[ci]? = some (Cn, TT, N)) (hin : ∀ w ∈ u_ws Cn TT N, w ∈ Ts) (ty0 : Nat → FieldType) (hty : ∀ k, k < N → parseFieldDescriptor (TT k).2.2.1 = some (ty0 k)) (hnm : ∀ a, a < N → ∀ b, b < N → a ≠ b → (TT a).2.1 ≠ (TT b).2.1) (k : Nat) (hk : k < N) (hm : Cond.fieldLink own index (TT k).1 (TT k).2.1 (TT k).2.2.1 ∈ Ts) (hfin : (TT k).2.2.2 = false) (hn : narrow (ty0 k) v = v) (hfit : fits (ty0 k) v = true) (hl : k < fs.length) (hdg : decode cc pc = .ok (.putfield index, 3))
    (kk : zk_Z E p l e R s m args below meth c cl sl Q pre (X.set j (.inr (ci, fs.set k v))) (F0 m (pc + 3) ls rest)) : zk_Z E p l e R s m args below meth c cl sl Q pre X (F0 m pc ls (v :: .ref (E.1 + (a + j)) :: rest)) := by
  intro H locs hP hS0
  have he9 : (zk_W E.1 (pre ++ X))[a + j]? = some (E.1 + (a + j), .inr (ci, fs)) := zk_at ((zk_ix ha).trans he)
  have hD := zk_D E (pre ++ X)
  have hts := C.1.2.2.2.2
  have hap := va_apart (own := own) hts hin ty0 hty hnm C.2.1.1 hc
  obtain ⟨r, h1, cell, q1, q2, q3, q4⟩ := hP.1 (a + j) _ he9
  have hr : r = (Cn, TT, N) := Option.some.inj (h1.symm.trans hc)
  subst hr
  obtain ⟨hS, hfc, kC, hkC, hkind⟩ := C.2.1.1.1 ci _ hc
  obtain ⟨cf, kf, fi, f, hi, hsl⟩ := hS k hk
  have hlay := hts _ (hin _ (u_in_lay hk))
  unfold u_lay at hlay
  rw [if_neg (by rw [hfin]; decide)] at hlay
  have hst := (u_facts hfc hkC (u_lays hts hin hk) hi).1
  have h6 := u_store hfc hkC hkind hlay hi (hty k hk) hn hfit
  refine W.putK C.1.1 C.1.2.1 (f := f) ⟨C.1.2.2.2.1, hts _ hm, ⟨_, _, _, hi⟩, hst⟩ (by rw [q2]; exact h6) q1 q3 (by rw [hsl]; exact k2_hasslot (q4 k hk)) rfl rfl hdg fun H' e1 e2 e3 => ?_
  rw [hsl] at e1 ⊢
  have hP1 := hP.1.set (e := .inr (ci, fs.set k v)) (H1 := H') hD he9 ⟨_, hc, t_OB.to (V := updV (vp_V fs) k v) ⟨_, e1, q2, q3, t_set q4 hap hk v⟩ (fun j _ => vp_updV_set hl v j)⟩ e3
  rw [zk_set, zk_sx ha] at hP1
  exact kk H' _ ⟨hP1, by rw [e2, hP.2]; simp⟩ (hS0.put e2 e3 (hD.2 _ _ he9))
theorem zk_putF (C : zz_C E own cc nL Ts p s m args meth c) (hin2 : meth.name = "<init>") (ha : pre.length = a) (j : Nat) {ci N index : Nat} {Cn : String} {TT : u_T} {fs : List Value} {v : Value} (he : X[j]? = some (.inr (ci, fs))) (hc : vwCl[ci]? = some (Cn, TT, N)) (hin : ∀ w ∈ u_ws Cn TT N, w ∈ Ts) (ty0 : Nat → FieldType) (hty : ∀ k, k < N → parseFieldDescriptor (TT k).2.2.1 = some (ty0 k)) (hnm : ∀ a, a < N → ∀ b, b < N → a ≠ b → (TT a).2.1 ≠ (TT b).2.1) (k : Nat) (hk : k < N) (hm : Cond.fieldLink own index (TT k).1 (TT k).2.1 (TT k).2.2.1 ∈ Ts) (hfin : (TT k).2.2.2 = true) (hdecl : (TT k).1 = own) (hn : narrow (ty0 k) v = v) (hfit : fits (ty0 k) v = true) (hl : k < fs.length) (hdg : decode cc pc = .ok (.putfield index, 3))
    (kk : zk_Z E p l e R s m args below meth c cl sl Q pre (X.set j (.inr (ci, fs.set k v))) (F0 m (pc + 3) ls rest)) : zk_Z E p l e R s m args below meth c cl sl Q pre X (F0 m pc ls (v :: .ref (E.1 + (a + j)) :: rest)) := by
  intro H locs hP hS0
  have he9 : (zk_W E.1 (pre ++ X))[a + j]? = some (E.1 + (a + j), .inr (ci, fs)) := zk_at ((zk_ix ha).trans he)
  have hD := zk_D E (pre ++ X)
  have hts := C.1.2.2.2.2
  have hap := va_apart (own := own) hts hin ty0 hty hnm C.2.1.1 hc
  obtain ⟨r, h1, cell, q1, q2, q3, q4⟩ := hP.1 (a + j) _ he9
  have hr : r = (Cn, TT, N) := Option.some.inj (h1.symm.trans hc)
  subst hr
  obtain ⟨hS, hfc, kC, hkC, hkind⟩ := C.2.1.1.1 ci _ hc
  obtain ⟨cf, kf, fi, f, hi, hsl⟩ := hS k hk
  have hlay := hts _ (hin _ (u_in_lay hk))
  unfold u_lay at hlay
  rw [if_pos hfin] at hlay
  have hst := (u_facts hfc hkC (u_lays hts hin hk) hi).1
  have hcf : m.cls = cf := by
    obtain ⟨_, _, c', _, _, _, -, -, hf', -, -, -, hown2, -⟩ := Cond.laysFinal_spec hlay
    have e1 : c' = cf := by have := hi.symm.trans hf'; simp at this; exact this.1.symm
    rw [hdecl] at hown2
    rw [← e1]; exact Option.some.inj (C.1.2.2.2.1.symm.trans hown2)
  have h6 := u_fits hfc hkC hkind (Or.inr hlay) hi (hty k hk) hn hfit
  refine W.putFinK C.1.1 C.1.2.1 C.1.2.2.2.1 (hts _ hm) hi hst hcf hin2 (by rw [q2]; exact h6) q1 q3 (by rw [hsl]; exact k2_hasslot (q4 k hk)) rfl rfl hdg fun H' e1 e2 e3 => ?_
  rw [hsl] at e1 ⊢
  have hP1 := hP.1.set (e := .inr (ci, fs.set k v)) (H1 := H') hD he9 ⟨_, hc, t_OB.to (V := updV (vp_V fs) k v) ⟨_, e1, q2, q3, t_set q4 hap hk v⟩ (fun j _ => vp_updV_set hl v j)⟩ e3
  rw [zk_set, zk_sx ha] at hP1
  exact kk H' _ ⟨hP1, by rw [e2, hP.2]; simp⟩ (hS0.put e2 e3 (hD.2 _ _ he9))
theorem zk_get (C : zz_C E own cc nL Ts p s m args meth c) (ha : pre.length = a) (j : Nat) {ci N index : Nat} {Cn : String} {TT : u_T} {fs : List Value} {v : Value} (he : X[j]? = some (.inr (ci, fs))) (hc : vwCl[ci]? = some (Cn, TT, N)) (hin : ∀ w ∈ u_ws Cn TT N, w ∈ Ts) (k : Nat) (hk : k < N) (hm : Cond.fieldLink own index (TT k).1 (TT k).2.1 (TT k).2.2.1 ∈ Ts) (hv : fs[k]? = some v) (hdg : decode cc pc = .ok (.getfield index, 3))
    (kk : zk_Z E p l e R s m args below meth c cl sl Q pre X (F0 m (pc + 3) ls (v :: rest))) : zk_Z E p l e R s m args below meth c cl sl Q pre X (F0 m pc ls (.ref (E.1 + (a + j)) :: rest)) := fun H locs hP hS =>
  va_get C.1.1 C.1.2.1 C.1.2.2.2.2 hin C.1.2.2.2.1 C.2.1.1 hP.1 (a + j) (zk_at ((zk_ix ha).trans he)) hc k hk (C.1.2.2.2.2 _ hm) (fun _ h9 => h9) hv hdg (kk H locs hP hS)
theorem zk_aast (C : zz_C E own cc nL Ts p s m args meth c) (ha : pre.length = a) (j t j2 : Nat) {ci N n : Nat} {Cn : String} {TT : u_T} {vs : List Value} {f : Nat → Option Nat} (he : X[j]? = some (.inl (E.2.2.1 t, n, .inr (.inr (.inr (.inr f)))))) (ht : (zz_tys E)[t]? = some (E.2.2.1 t, .object Cn)) (hv : X[j2]? = some (.inr (ci, vs))) (hc : vwCl[ci]? = some (Cn, TT, N)) {i : Int32} (hin : zz_in i n = true) (hdg : decode cc pc = .ok (.aastore, 1))
    (kk : zk_Z E p l e R s m args below meth c cl sl Q pre (X.set j (.inl (E.2.2.1 t, n, .inr (.inr (.inr (.inr (va_up f (zz_n i) (some (E.1 + (a + j2))))))))) ) (F0 m (pc + 1) ls rest)) : zk_Z E p l e R s m args below meth c cl sl Q pre X (F0 m pc ls (.ref (E.1 + (a + j2)) :: .int i :: .ref (E.1 + (a + j)) :: rest)) := by
  intro H locs hP hS
  have he9 : (zk_W E.1 (pre ++ X))[a + j]? = some (E.1 + (a + j), .inl (E.2.2.1 t, n, .inr (.inr (.inr (.inr f))))) := zk_at ((zk_ix ha).trans he)
  have hv9 : (zk_W E.1 (pre ++ X))[a + j2]? = some (E.1 + (a + j2), .inr (ci, vs)) := zk_at ((zk_ix ha).trans hv)
  have hD := zk_D E (pre ++ X)
  have hin := zz_in_vp hin
  have hlt : i.toNatClampNeg < n := Nat.not_le.mp fun q => hin (Or.inr q)
  have h0 : ¬ i < 0 := fun q => hin (Or.inl q)
  obtain ⟨r', hr', cellV, g1, g2, g3, -⟩ := hP.1 (a + j2) _ hv9
  have hcls := (C.2.1.1.1 ci _ hc).2
  obtain ⟨kA, comp, k1, k2, k3, -⟩ := (C.2.1.1.2 t _ ht).2
  have hcomp : comp = E.2.1.1 ci := Option.some.inj (k3.symm.trans hcls.1)
  subst hcomp
  obtain ⟨kC, hkC, -⟩ := hcls.2
  refine W.aast C.1.1 C.1.2.1 (hP.1 (a + j) _ he9) (fun q h => by cases h) (fun h => by cases h) k1 k2 rfl hkC ⟨h0, by show _ < (arrV _ _ _).slots.size; rw [arrV_size]; exact hlt⟩ g1 (fun q h => by rw [g3] at h; cases h) (by rw [g2]; exact hkC) (by rw [g2]; exact va_assign hcls) rfl rfl hdg fun H1 e z oq => ?_
  have hP1 := hP.1.set (e := .inl (E.2.2.1 t, n, .inr (.inr (.inr (.inr (va_up f (zz_n i) (some (E.1 + (a + j2))))))))) hD he9 (by
    show H1[_]? = some (vp_cell _ _)
    rw [e]
    rw [vp_cell_q, vp_cell_q, arrV_store]
    congr 2
    funext q
    by_cases hq : q = i.toNatClampNeg
    · subst hq
      simp [updV, va_up, va_rf, zz_n]
    · simp [updV, va_up, hq, zz_n]) oq
  rw [zk_set, zk_sx ha] at hP1
  exact kk H1 _ ⟨hP1, by rw [z, hP.2]; simp⟩ (hS.put z oq (hD.2 _ _ he9))
theorem zk_obj (C : zz_C E own cc nL Ts p s m args meth c) {idx : Nat} {x : Nat} (hlink : Cond.methodLink own idx objectInit ∈ Ts) (hinst : Cond.instanceMethod objectInit ∈ Ts) (hcode : Cond.code objectInit ⟨#[0xb1]⟩ 1 none ∈ Ts) (hls : ls.size = nL) (hd : decode cc pc = .ok (.invokespecial idx, 3)) (hframes : 1 ≤ R.frames) (hlocals : (rest.map fun v => v.category).sum + 12 ≤ R.locals)
    (kk : zk_Z E p l e R s m args below meth c cl sl Q pre X (F0 m (pc + 3) ls rest)) : zk_Z E p l e R s m args below meth c cl sl Q pre X (F0 m pc ls (.ref x :: rest)) := fun H locs hP hS =>
  W.objInit C.1.1 C.1.2.1 C.1.2.2.2.1 (C.1.2.2.2.2 _ hlink) (C.1.2.2.2.2 _ hinst) (C.1.2.2.2.2 _ hcode) rfl (hls.trans C.1.2.2.1.symm) rfl hd hframes (by show 2 * 0 + _ + 12 ≤ _; omega) (kk H locs hP hS)
theorem zk_callI (C : zz_C E own cc nL Ts p s m args meth c) (hAO : zk_O s) {y : MethodName} {ws : List Cond} {h mc ms index maxL n b9 : Nat} {bytes : ByteArray} {st As : List Value} {X' : List va_E} (hM : zk_Met l y ws h mc ms E (.ref b9 :: As) (pre ++ X) (pre ++ X')) (cw : CallB R s args own index y bytes maxL none ws (zk_rm h mc ms) mc ms n ∧ y.name = "<init>" ∧ (Cond.instanceMethod y).before args s = true) (hn : As.length = n) (hls : ls.size = nL) (hst : st = As.reverse ++ .ref b9 :: rest) (hW : (rest.map fun v => v.category).sum ≤ 8) (hdg : decode cc pc = .ok (.invokespecial index, 3)) (hcl : cl + mc ≤ R.cells) (hsl : sl + ms ≤ R.slots)
    (kk : zk_Z E p l e R s m args below meth c (cl + mc) (sl + ms) Q pre X' (F0 m (pc + 3) ls rest)) : zk_Z E p l e R s m args below meth c cl sl Q pre X (F0 m pc ls st) := fun H locs hP hS => by
  refine va_callv (va_runI (As := As) (rest := rest) C.1 hM cw ⟨zk_blind E _ _, fun U hU hW => ⟨rfl, by rw [hU]; exact hP, va_K.moved hW.alike C.2.1.1, C.2.1.2.1.warm hW, C.2.1.2.2.warm hW (by rw [hU]; exact hS.2.1), hAO.moved hW.alike⟩⟩ rfl hn hls hst (by show 2 * 0 + _ ≤ 8; omega) hdg ⟨hcl, hsl⟩) hS (fun q _ h => h) (fun q h => h) (fun u t H1 locs1 ht hvm hw hB hz1 hk1 hS1 => ?_)
  exact kk H1 locs1 (by rw [← ht]; exact hB) hS1
theorem zk_callN (C : zz_C E own cc nL Ts p s m args meth c) (hAO : zk_O s) {y : MethodName} {ws : List Cond} {host : String} {h mc ms index maxL n b9 : Nat} {bytes : ByteArray} {st As : List Value} {X' : List va_E} (hM : zk_Met l y ws h mc ms E (.ref b9 :: As) (pre ++ X) (pre ++ X')) (cw : va_CN R s args own index y host bytes maxL none ws (zk_rm h mc ms) mc ms n ∧ y.name = "<init>" ∧ (Cond.instanceMethod y).before args s = true) (hn : As.length = n) (hls : ls.size = nL) (hst : st = As.reverse ++ .ref b9 :: rest) (hW : (rest.map fun v => v.category).sum ≤ 8) (hdg : decode cc pc = .ok (.invokespecial index, 3)) (hcl : cl + mc ≤ R.cells) (hsl : sl + ms ≤ R.slots)
    (kk : zk_Z E p l e R s m args below meth c (cl + mc) (sl + ms) Q pre X' (F0 m (pc + 3) ls rest)) : zk_Z E p l e R s m args below meth c cl sl Q pre X (F0 m pc ls st) := fun H locs hP hS => by
  refine va_callv (va_runIN (As := As) (rest := rest) C.1 hM cw ⟨zk_blind E _ _, fun U hU hW => ⟨rfl, by rw [hU]; exact hP, va_K.moved hW.alike C.2.1.1, C.2.1.2.1.warm hW, C.2.1.2.2.warm hW (by rw [hU]; exact hS.2.1), hAO.moved hW.alike⟩⟩ rfl hn hls hst (by show 2 * 0 + _ ≤ 8; omega) hdg ⟨hcl, hsl⟩) hS (fun q _ h => h) (fun q h => h) (fun u t H1 locs1 ht hvm hw hB hz1 hk1 hS1 => ?_)
  exact kk H1 locs1 (by rw [← ht]; exact hB) hS1
theorem zk_ret (C : zz_C E own cc nL Ts p s m args meth c) {cs' : List va_E} (hr : meth.sig.returnType = none) (hdg : decode cc pc = .ok (.return_, 1)) (h : ∀ H : Heap, zk_P E (pre ++ X) H → zk_P E cs' H) : zk_Z E p l e R s m args below meth c cl sl (MQ below (zk_pv E cs') args s cl sl (zz_A E)) pre X (F0 m pc ls []) := fun H locs hP hS =>
  W.vret C.1.1 C.1.2.1 hr (fun t ht hW => ⟨⟨(), rfl, trivial, by show zk_P E cs' t.heap; rw [ht]; exact h H hP⟩, hS.F ht⟩) hS.2.2 hdg C.2.2
end ZK
/-- a row of references may be told by another function that is the same in its places -/
theorem zk_refs {E : zz_E} {pre X : List va_E} {a j t n : Nat} {f g : Nat → Option Nat} (ha : pre.length = a) (he : X[j]? = some (.inl (E.2.2.1 t, n, .inr (.inr (.inr (.inr f)))))) (h : ∀ i, i < n → f i = g i) {H : Heap} (hP : zk_P E (pre ++ X) H) : zk_P E (pre ++ X.set j (.inl (E.2.2.1 t, n, .inr (.inr (.inr (.inr g)))))) H := by
  have he9 : (zk_W E.1 (pre ++ X))[a + j]? = some (E.1 + (a + j), .inl (E.2.2.1 t, n, .inr (.inr (.inr (.inr f))))) := zk_at ((zk_ix ha).trans he)
  have h1 := hP.1.set (H1 := H) (e := .inl (E.2.2.1 t, n, .inr (.inr (.inr (.inr g))))) (zk_D E _) he9 (by
    have h2 := hP.1 _ _ he9
    show H[_]? = some (vp_cell _ _)
    have h3 : vp_cell (E.2.2.1 t) (n, .inr (.inr (.inr (.inr g)))) = vp_cell (E.2.2.1 t) (n, .inr (.inr (.inr (.inr f)))) := by
      rw [vp_cell_q, vp_cell_q]
      have h4 : (fun j : Fin n => va_rf (g j.val)) = (fun j : Fin n => va_rf (f j.val)) := by
        funext j
        rw [h j.val j.isLt]
      unfold arrV
      rw [h4]
    rw [h3]
    exact h2) (fun _ _ => rfl)
  rw [zk_set, zk_sx ha] at h1
  exact ⟨h1, by rw [hP.2]; simp⟩
section ZK
variable {p : Program} {l : Launch} {e : Env} {R : Room} {s : State} {m : MethodId} {args : Array Value} {below : List Frame} {meth : Method} {c : Code}
variable {E : zz_E} {own : String} {cc : ByteArray} {nL : Nat} {Ts : List Cond} {Q : State → Prop} {pre X : List va_E} {pc : Nat} {ls : Array Slot} {rest : List Value} {cl sl a : Nat}
theorem zk_istore_n (C : zz_C E own cc nL Ts p s m args meth c) {k9 : Fin 4} {i : Nat} {x : Int32} {lv lv' : List (Nat × Value)} (hdg : decode cc pc = .ok (.istore_n k9, 1)) (hi : (k9 : Nat) = i) (h : lv_has ls nL lv) (hn : i < nL) (hl : (i, Value.int x) :: lv.filter (fun q => !(q.1 == i) && !(q.1 + 1 == i && q.2.category == 2)) = lv') (kk : ∀ ls' : Array Slot, lv_has ls' nL lv' → zk_Z E p l e R s m args below meth c cl sl Q pre X (F0 m (pc + 1) ls' rest)) : zk_Z E p l e R s m args below meth c cl sl Q pre X (F0 m pc ls (.int x :: rest)) := fun H locs hP hS => lv_istore_n C.1.1 C.1.2.1 hdg hi h hn hl (fun ls' h' => kk ls' h' H locs hP hS)
theorem zk_astore_n (C : zz_C E own cc nL Ts p s m args meth c) {k9 : Fin 4} {i x : Nat} {lv lv' : List (Nat × Value)} (hdg : decode cc pc = .ok (.astore_n k9, 1)) (hi : (k9 : Nat) = i) (h : lv_has ls nL lv) (hn : i < nL) (hl : (i, Value.ref x) :: lv.filter (fun q => !(q.1 == i) && !(q.1 + 1 == i && q.2.category == 2)) = lv') (kk : ∀ ls' : Array Slot, lv_has ls' nL lv' → zk_Z E p l e R s m args below meth c cl sl Q pre X (F0 m (pc + 1) ls' rest)) : zk_Z E p l e R s m args below meth c cl sl Q pre X (F0 m pc ls (.ref x :: rest)) := fun H locs hP hS => lv_astore_n C.1.1 C.1.2.1 hdg hi h hn hl (fun ls' h' => kk ls' h' H locs hP hS)
theorem zk_iinc (C : zz_C E own cc nL Ts p s m args meth c) {i k9 : Nat} {n : Int} {x v : Int32} {lv lv' : List (Nat × Value)} (hdg : decode cc pc = .ok (.iinc i n, 3)) (h : lv_has ls nL lv) (hk : lv[k9]? = some (i, .int x)) (hv : x + Int32.ofInt n = v) (hn : i < nL) (hl : (i, Value.int v) :: lv.filter (fun q => !(q.1 == i) && !(q.1 + 1 == i && q.2.category == 2)) = lv') (kk : ∀ ls' : Array Slot, lv_has ls' nL lv' → zk_Z E p l e R s m args below meth c cl sl Q pre X (F0 m (pc + 3) ls' rest)) : zk_Z E p l e R s m args below meth c cl sl Q pre X (F0 m pc ls rest) := fun H locs hP hS => lv_iinc C.1.1 C.1.2.1 hdg h hk hv hn hl (fun ls' h' => kk ls' h' H locs hP hS)
end ZK
theorem zk_lift {l : Launch} {E : zz_E} {y : MethodName} {ws : List Cond} {h mc ms : Nat} {fresh : va_E} {blk : Nat → List va_E} {As : List Value} (hM : ∀ (pre : List va_E) (a : Nat), pre.length = a → zk_Met l y ws h mc ms E (.ref (E.1 + a) :: As) (pre ++ [fresh]) (pre ++ blk a)) {pre X : List va_E} {a n : Nat} (ha : pre.length = a) (hX : X.length = n) : zk_Met l y ws h mc ms E (.ref (E.1 + (a + n)) :: As) (pre ++ (X ++ [fresh])) (pre ++ (X ++ blk (a + n))) := by
  have h1 := hM (pre ++ X) (a + n) (by rw [List.length_append, ha, hX])
  rw [List.append_assoc, List.append_assoc] at h1
  exact h1
