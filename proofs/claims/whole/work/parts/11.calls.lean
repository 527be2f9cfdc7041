/-! CONTRACTS over states, calls and returns -/
def Pre (E : ExT) (T : Lay) (kc : Nat → ClassId) (ad : Nat → Nat) (D : va_G) (σ : St) (sz : Nat) : State → Prop := fun U => U.heap.size = sz ∧ va_P D vwCl (wsW T kc ad σ) U.heap ∧ va_K D vwCl (kts kc) U ∧ va_D (fun _ => True) (wsW T kc ad σ) ∧ E (va_A (wsW T kc ad σ) sz) U U.heap
def QQ (T : Lay) (kc : Nat → ClassId) (ad : Nat → Nat) (D : va_G) (ov : Option Value) (σ σ' : St) (sz : Nat) : Array Value → State → Outcome → State → Prop := fun _ st oc t => oc = .returned ov ∧ va_P D vwCl (wsW T kc ad σ') t.heap ∧ va_D (va_A (wsW T kc ad σ) sz) (wsW T kc ad σ') ∧ va_F (va_A (wsW T kc ad σ) sz) st t
def KC (E : ExT) (T : Lay) (kc : Nat → ClassId) (ad : Nat → Nat) (D : va_G) (l : Launch) (y : MethodName) (w0 : Cond) (rm : Room) (av : List Value) (ov : Option Value) (σ σ' : St) : Prop := ∀ sz : Nat, Met l y (w0 :: bw) rm (va_Pc av (Pre E T kc ad D σ sz)) (QQ T kc ad D ov σ σ' sz) 0 0 (va_A (wsW T kc ad σ) sz)
/-- what a link to an instance method, to a static one, is made of -/
def LkV (own : String) (idx : Nat) (y : MethodName) (bytes : ByteArray) (maxL : Nat) (ret : Option FieldType) (n : Nat) : Prop := Cond.methodLink own idx y ∈ bw ∧ Cond.instanceMethod y ∈ bw ∧ Cond.selects y.cls y y ∈ bw ∧ Cond.initialized y.cls ∈ bw ∧ Cond.code y bytes maxL ret ∈ bw ∧ (y.cls ≠ "java/lang/invoke/MethodHandle" ∧ y.cls ≠ "java/lang/invoke/VarHandle" ∧ (parseMethodDescriptor y.desc).map (fun d => d.parameters.length) = some n)
def LkS (own : String) (idx : Nat) (y : MethodName) (bytes : ByteArray) (maxL : Nat) (ret : Option FieldType) (n : Nat) : Prop := Cond.methodLink own idx y ∈ bw ∧ Cond.static y ∈ bw ∧ Cond.initialized y.cls ∈ bw ∧ Cond.code y bytes maxL ret ∈ bw ∧ (y.cls ≠ "java/lang/invoke/MethodHandle" ∧ y.cls ≠ "java/lang/invoke/VarHandle" ∧ (parseMethodDescriptor y.desc).map (fun d => d.parameters.length) = some n)
def LkN (y : MethodName) (bytes : ByteArray) (maxL : Nat) (ret : Option FieldType) (n : Nat) : Prop := Cond.static y ∈ bw ∧ Cond.initialized y.cls ∈ bw ∧ Cond.code y bytes maxL ret ∈ bw ∧ (y.cls ≠ "java/lang/invoke/MethodHandle" ∧ y.cls ≠ "java/lang/invoke/VarHandle" ∧ (parseMethodDescriptor y.desc).map (fun d => d.parameters.length) = some n)
section R2
variable {E : ExT} {p : Program} {l : Launch} {e : Env} {R : Room} {s : State} {m : MethodId} {args : Array Value} {below : List Frame} {meth : Method} {c : Code} {H : Heap} {locs : List Loc} {cells slots : Nat} {Q : State → Prop}
variable {cc : ByteArray} {nL : Nat} {own : String} {pc : Nat} {ls : Array Slot} {rest : List Value} {D : va_G} {kc : Nat → ClassId} {ad : Nat → Nat} {A : Nat → Prop} {T : Lay} {σ σ' : St}
theorem ws_places (ws : va_W) : (List.range ws.length).map (fun i => ws[i]?) = ws.map some := by
  apply List.ext_getElem?
  intro i
  rw [List.getElem?_map, List.getElem?_map]
  by_cases h : i < ws.length
  · rw [List.getElem?_range h, List.getElem?_eq_getElem h]
    simp [List.getElem?_eq_getElem h]
  · rw [List.getElem?_eq_none (by rw [List.length_range]; omega), List.getElem?_eq_none (by omega)]
    rfl
theorem Dy.free (C : Cx E p s m args c cc nL own D kc A) (Z : Dy T kc ad D A s.heap σ H locs) : ∀ q, va_A (wsW T kc ad σ) H.size q → A q := va_free Z.2.1 Z.2.2 C.2.2.1 (List.range (wsW T kc ad σ).length) (ws_places _)
theorem Pre_blind (hE : EOK E) {av : List Value} {sz : Nat} : FrameBlind (va_Pc av (Pre E T kc ad D σ sz)) := by
  intro a U g mk q
  obtain ⟨q0, q1, qP, qK, qD, qE⟩ := q
  exact ⟨q0, q1, qP, va_K.moved (u := U) (U := U.calling g mk a) (Vm.Alike.refl U.vm) qK, qD, hE.2.2.2 _ U (U.calling g mk a) _ rfl qE⟩
theorem Pre_at (hE : EOK E) (C : Cx E p s m args c cc nL own D kc A) (Z : Dy T kc ad D A s.heap σ H locs) (U : State) (hU : U.heap = H) (hW : s.WarmedH U.vm) : Pre E T kc ad D σ H.size U := by
  have hF := Z.free C
  obtain ⟨-, hK, hA, hE0⟩ := C
  obtain ⟨hP, hD, hS⟩ := Z
  refine ⟨by rw [hU], by rw [hU]; exact hP, va_K.moved hW.alike hK, hD.weaken (fun _ _ _ _ => trivial), ?_⟩
  rw [hU]
  exact hE.2.2.1 _ _ _ _ hF (hE.1 _ _ _ _ hW (hE.2.1 _ _ _ _ (fun q h1 h2 => hS.2.1 q h1 h2) hE0))
theorem g_run (C : Cx E p s m args c cc nL own D kc A) (Z : Dy T kc ad D A s.heap σ H locs) {ov : Option Value} {st0 : List Value} {a : Array Value}
    (hr : va_Run p l e R s m args below meth c H locs cells slots 0 0 (F0 m pc ls st0) rest (QQ T kc ad D ov σ σ' H.size a) (va_A (wsW T kc ad σ) H.size))
    (kk : ∀ (H1 : Heap) (locs1 : List Loc), Dy T kc ad D A s.heap σ' H1 locs1 → W p l e R s m args below meth c H1 locs1 cells slots Q (F0 m (pc + 3) ls (ov.toList ++ rest))) : W p l e R s m args below meth c H locs cells slots Q (F0 m pc ls st0) := by
  have hF := Z.free C
  obtain ⟨hP, hD, hS⟩ := Z
  intro U hU X
  obtain ⟨v, st₀, t, U', L, h0, X', hL, e1, e2, ⟨hv, hP1, hD1, hz, hk⟩, st⟩ := hr U hU X
  have hv : v = ov := by injection hv
  subst hv
  rw [h0] at hz hk
  obtain ⟨t2, a1, b1⟩ := kk U'.heap (locs ++ L) ⟨by rw [e1]; exact hP1, hD1.weaken (fun _ q _ h => hF q.1 h), Nat.le_trans hS.1 (by rw [e1]; exact hz), fun q h1 h2 => by rw [e1, hk q (Nat.lt_of_lt_of_le h1 hS.1) (fun z => h2 (hF q z))]; exact hS.2.1 q h1 h2, fun q hq => by
      rcases List.mem_append.mp hq with h | h
      · exact hS.2.2 q h
      · exact hF _ (hL q h)⟩ U' rfl X'
  exact ⟨t2, st t2 a1, b1⟩
theorem g_callV (hE : EOK E) (C : Cx E p s m args c cc nL own D kc A) (Z : Dy T kc ad D A s.heap σ H locs) {y : MethodName} {bytes : ByteArray} {maxL idx n j ci nf : Nat} {ret : Option FieldType} {rm : Room} {As : List Value} {ov : Option Value} {F : u_T}
    (K : KC E T kc ad D l y (.code y bytes maxL ret) rm (.ref (ad j) :: As) ov σ σ') (lk : LkV own idx y bytes maxL ret n) (hj : j < T.1) (ho : T.2.1 j = some (ci, nf)) (hc : vwCl[ci]? = some (y.cls, F, nf)) {lv : List (Nat × Value)} (hl : lv_has ls nL lv) (hR : rm.cells = 0 ∧ rm.slots = 0 ∧ rm.frames + 1 ≤ R.frames ∧ 8 + (maxL + 11) + rm.locals ≤ R.locals ∧ cells ≤ R.cells ∧ slots ≤ R.slots) (hn : As.length = n) (hW : (rest.map fun v => v.category).sum ≤ 8) {st0 : List Value} (hst : st0 = As.reverse ++ .ref (ad j) :: rest) (hd : decode cc pc = .ok (.invokevirtual idx, 3))
    (kk : ∀ (H1 : Heap) (locs1 : List Loc), Dy T kc ad D A s.heap σ' H1 locs1 → W p l e R s m args below meth c H1 locs1 cells slots Q (F0 m (pc + 3) ls (ov.toList ++ rest))) : W p l e R s m args below meth c H locs cells slots Q (F0 m pc ls st0) := by
  obtain ⟨w1, w2, w3, w4, w5, w6⟩ := lk
  have hB := C.1.2.2.2.2
  refine g_run C Z (a := (Value.ref (ad j) :: As).toArray) (va_runV (As := As) (rest := rest) C.1 (K H.size) ⟨callB_of n hB (bw_good0 w5) rfl hR.1 hR.2.1 (hB _ w4) (hB _ w1) w6 ⟨hR.2.2.1, hR.2.2.2.1⟩, hB _ w2, hB _ w3⟩ ⟨Pre_blind hE, va_recv C.2.1 Z.1 hc (q0 := j) (by rw [ws_get hj, ent_o ho]), fun U hU hW => ⟨rfl, Pre_at hE C Z U hU hW⟩⟩ rfl hn hl.1 hst (lv_room hW) hd hR.2.2.2.2) kk
theorem g_callS (hE : EOK E) (C : Cx E p s m args c cc nL own D kc A) (Z : Dy T kc ad D A s.heap σ H locs) {y : MethodName} {bytes : ByteArray} {maxL idx n : Nat} {ret : Option FieldType} {rm : Room} {As : List Value} {ov : Option Value}
    (K : KC E T kc ad D l y (.code y bytes maxL ret) rm As ov σ σ') (lk : LkS own idx y bytes maxL ret n) {lv : List (Nat × Value)} (hl : lv_has ls nL lv) (hR : rm.cells = 0 ∧ rm.slots = 0 ∧ rm.frames + 1 ≤ R.frames ∧ 8 + (maxL + 11) + rm.locals ≤ R.locals ∧ cells ≤ R.cells ∧ slots ≤ R.slots) (hn : As.length = n) (hW : (rest.map fun v => v.category).sum ≤ 8) {st0 : List Value} (hst : st0 = As.reverse ++ rest) (hd : decode cc pc = .ok (.invokestatic idx, 3))
    (kk : ∀ (H1 : Heap) (locs1 : List Loc), Dy T kc ad D A s.heap σ' H1 locs1 → W p l e R s m args below meth c H1 locs1 cells slots Q (F0 m (pc + 3) ls (ov.toList ++ rest))) : W p l e R s m args below meth c H locs cells slots Q (F0 m pc ls st0) := by
  obtain ⟨w1, w2, w4, w5, w6⟩ := lk
  have hB := C.1.2.2.2.2
  refine g_run C Z (a := As.toArray) (va_runS (As := As) (rest := rest) C.1 (K H.size) ⟨callB_of n hB (bw_good0 w5) rfl hR.1 hR.2.1 (hB _ w4) (hB _ w1) w6 ⟨hR.2.2.1, hR.2.2.2.1⟩, hB _ w2⟩ ⟨Pre_blind hE, fun U hU hW => ⟨rfl, Pre_at hE C Z U hU hW⟩⟩ rfl hn hl.1 hst (lv_room hW) hd hR.2.2.2.2) kk
theorem g_callN (hE : EOK E) (C : Cx E p s m args c cc nL own D kc A) (Z : Dy T kc ad D A s.heap σ H locs) {y : MethodName} {bytes : ByteArray} {maxL idx n : Nat} {ret : Option FieldType} {rm : Room} {As : List Value} {ov : Option Value} {host : String}
    (K : KC E T kc ad D l y (.code y bytes maxL ret) rm As ov σ σ') (hN : va_Nw (.methodLinkNest own idx y host) s) (lk : LkN y bytes maxL ret n) {lv : List (Nat × Value)} (hl : lv_has ls nL lv) (hR : rm.cells = 0 ∧ rm.slots = 0 ∧ rm.frames + 1 ≤ R.frames ∧ 8 + (maxL + 11) + rm.locals ≤ R.locals ∧ cells ≤ R.cells ∧ slots ≤ R.slots) (hn : As.length = n) (hW : (rest.map fun v => v.category).sum ≤ 8) {st0 : List Value} (hst : st0 = As.reverse ++ rest) (hd : decode cc pc = .ok (.invokestatic idx, 3))
    (kk : ∀ (H1 : Heap) (locs1 : List Loc), Dy T kc ad D A s.heap σ' H1 locs1 → W p l e R s m args below meth c H1 locs1 cells slots Q (F0 m (pc + 3) ls (ov.toList ++ rest))) : W p l e R s m args below meth c H locs cells slots Q (F0 m pc ls st0) := by
  obtain ⟨w2, w4, w5, w6⟩ := lk
  have hB := C.1.2.2.2.2
  refine g_run C Z (a := As.toArray) (va_runSN (As := As) (rest := rest) C.1 (K H.size) ⟨va_cnB n hB (bw_good0 w5) rfl hR.1 hR.2.1 hN (hB _ w4) w6 ⟨hR.2.2.1, hR.2.2.2.1⟩, hB _ w2, trivial⟩ ⟨Pre_blind hE, fun U hU hW => ⟨rfl, Pre_at hE C Z U hU hW⟩⟩ rfl hn hl.1 hst (lv_room hW) hd hR.2.2.2.2) kk
/-- a method's end: what it answers, narrowed as its type has it -/
theorem g_zret {Qc : Array Value → State → Outcome → State → Prop} {free : Addr → Prop} {v w : Int32} {ty : FieldType} (hexec : p.tables.exec = Jvm.exec) (hb : c.code = cc) (hr : meth.sig.returnType = some ty) (hn : narrow ty (.int v) = .int w)
    (hq : ∀ t : State, t.heap = H → s.WarmedH t.vm → Qc args s (.returned (some (.int w))) t) (hf : ∀ q ∈ locs, free q.base) (hlocks : meth.locks = false) (hdg : decode cc pc = .ok (.ireturn, 1)) : W p l e R s m args below meth c H locs cells slots (MQ below Qc args s cells slots free) (F0 m pc ls [.int v]) := by
  intro T hT X
  obtain ⟨fs, hret, hrun, hended, hW, hframe⟩ := X.leave (v := some (.int w)) (fun h => by rw [hr] at h; cases h)
  have hmeth' : T.vm.method? m = some meth := X.method'
  refine ⟨T.setFrames fs, ?_, .returned (some (.int w)), hrun, hended, hq _ hT hW, locs, ⟨⟨_, rfl⟩, hW, hframe⟩, hf⟩
  jvm_step X.here [X.here.top, hexec, hb, hdg, hmeth', hr, hn]
  (try refine ⟨rfl, ?_⟩); (try refine ⟨rfl, ?_⟩)
  first | (intro acts; rw [hret _ acts rfl rfl rfl]) | rw [hret _ _ rfl rfl rfl]
  exact Steps.refl _
def RTi (cells slots : Nat) (p : Program) (l : Launch) (e : Env) (R : Room) (s : State) (m : MethodId) (args : Array Value) (below : List Frame) (meth : Method) (c : Code) (cc : ByteArray) (T : Lay) (kc : Nat → ClassId) (ad : Nat → Nat) (D : va_G) (A : Nat → Prop) (Q : State → Prop) (ty : FieldType) (w : Int32) (σ' : St) : Prop :=
  ∀ (H : Heap) (locs : List Loc) (ls : Array Slot) (pc : Nat) (v : Int32), Dy T kc ad D A s.heap σ' H locs → decode cc pc = .ok (.ireturn, 1) → narrow ty (.int v) = .int w → W p l e R s m args below meth c H locs cells slots Q (F0 m pc ls [.int v])
def RTl (cells slots : Nat) (p : Program) (l : Launch) (e : Env) (R : Room) (s : State) (m : MethodId) (args : Array Value) (below : List Frame) (meth : Method) (c : Code) (cc : ByteArray) (T : Lay) (kc : Nat → ClassId) (ad : Nat → Nat) (D : va_G) (A : Nat → Prop) (Q : State → Prop) (w : Int64) (σ' : St) : Prop :=
  ∀ (H : Heap) (locs : List Loc) (ls : Array Slot) (pc : Nat), Dy T kc ad D A s.heap σ' H locs → decode cc pc = .ok (.lreturn, 1) → W p l e R s m args below meth c H locs cells slots Q (F0 m pc ls [.long w])
def RTv (cells slots : Nat) (p : Program) (l : Launch) (e : Env) (R : Room) (s : State) (m : MethodId) (args : Array Value) (below : List Frame) (meth : Method) (c : Code) (cc : ByteArray) (T : Lay) (kc : Nat → ClassId) (ad : Nat → Nat) (D : va_G) (A : Nat → Prop) (Q : State → Prop) (σ' : St) : Prop :=
  ∀ (H : Heap) (locs : List Loc) (ls : Array Slot) (pc : Nat), Dy T kc ad D A s.heap σ' H locs → decode cc pc = .ok (.return_, 1) → W p l e R s m args below meth c H locs cells slots Q (F0 m pc ls [])
theorem g_RTi (hx : p.tables.exec = Jvm.exec) (hb : c.code = cc) {ty : FieldType} (hr : meth.sig.returnType = some ty) (hlocks : meth.locks = false) (hA : A = va_A (wsW T kc ad σ) s.heap.size) {w : Int32} : RTi cells slots p l e R s m args below meth c cc T kc ad D A (MQ below (QQ T kc ad D (some (.int w)) σ σ' s.heap.size) args s cells slots A) ty w σ' := by
  subst hA
  intro H locs ls pc v Z hd hn
  obtain ⟨hP, hD, hS⟩ := Z
  exact g_zret hx hb hr hn (fun t ht hW => ⟨rfl, by rw [ht]; exact hP, hD, hS.F ht⟩) hS.2.2 hlocks hd
theorem g_RTl (hx : p.tables.exec = Jvm.exec) (hb : c.code = cc) (hr : meth.sig.returnType = some .long) (hlocks : meth.locks = false) (hA : A = va_A (wsW T kc ad σ) s.heap.size) {w : Int64} : RTl cells slots p l e R s m args below meth c cc T kc ad D A (MQ below (QQ T kc ad D (some (.long w)) σ σ' s.heap.size) args s cells slots A) w σ' := by
  subst hA
  intro H locs ls pc Z hd
  obtain ⟨hP, hD, hS⟩ := Z
  exact W.lret hx hb hr (fun t ht hW => ⟨rfl, by rw [ht]; exact hP, hD, hS.F ht⟩) hS.2.2 hd hlocks
theorem g_RTv (hx : p.tables.exec = Jvm.exec) (hb : c.code = cc) (hr : meth.sig.returnType = none) (hlocks : meth.locks = false) (hA : A = va_A (wsW T kc ad σ) s.heap.size) : RTv cells slots p l e R s m args below meth c cc T kc ad D A (MQ below (QQ T kc ad D none σ σ' s.heap.size) args s cells slots A) σ' := by
  subst hA
  intro H locs ls pc Z hd
  obtain ⟨hP, hD, hS⟩ := Z
  exact W.vret hx hb hr (fun t ht hW => ⟨rfl, by rw [ht]; exact hP, hD, hS.F ht⟩) hS.2.2 hd hlocks
/-- a method's beginning -/
theorem g_enter {y : MethodName} {ret : Option FieldType} {rm : Room} {av : List Value} {ov : Option Value} (hy : plainName y.cls = true) (hn : (lg_sl av).length ≤ nL)
    (body : ∀ (p : Program) (e : Env) (s : State) (m : MethodId) (args : Array Value) (below : List Frame) (meth : Method) (c : Code) (A : Nat → Prop), A = va_A (wsW T kc ad σ) s.heap.size → Cx E p s m args c cc nL y.cls D kc A → meth.sig.returnType = ret → meth.locks = false → Dy T kc ad D A s.heap σ s.heap [] → ∀ ls : Array Slot, lv_has ls nL (lv_args 0 av) → W p l e rm s m args below meth c s.heap [] 0 0 (MQ below (QQ T kc ad D ov σ σ' s.heap.size) args s 0 0 A) (F0 m 0 ls [])) : KC E T kc ad D l y (.code y cc nL ret) rm av ov σ σ' := by
  intro sz
  refine Met.ofW (cc := cc) (maxL := nL) (ret := ret) hy rfl ?_
  intro p e s m args below meth c s₁ B hml hv
  obtain ⟨rfl, hsz, hP, hK, hD0, hE0⟩ := hv
  have hx := B.exec
  have hb := B.bytes
  have hr := B.returns
  have hts := atoms_spec (ws := .code y cc nL ret :: bw) B.pre
  have hown : s.vm.findClass y.cls = some m.cls := findClass_of_methodNamed B.named
  have hlocks := B.notSynchronized
  subst hsz
  have hl := lv_entry av (n := nL) hn
  rw [lg_entry_eq]
  exact body p e s m av.toArray below meth c _ rfl ⟨⟨hx, hb, hml, hown, fun w hw => hts w (List.mem_cons_of_mem _ hw)⟩, hK, fun q h => Or.inr h, hE0⟩ hr hlocks ⟨hP, hD0.self (sz := s.heap.size), va_S.rf⟩ _ hl
end R2
