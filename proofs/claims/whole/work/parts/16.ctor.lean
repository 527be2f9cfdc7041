/-! CONSTRUCTORS: an object whose fields are a function, and arrays that are made one after the other -/
def PW (ci nf h0 : Nat) (φ : Nat → Value) (n : Nat) (ad : Nat → Nat) (ae : Nat → va_E) : va_W := (h0, .inr (ci, (List.range nf).map φ)) :: (List.range n).map (fun j => (ad j, ae j))
theorem PW_push {ci nf h0 n q : Nat} {φ : Nat → Value} {ad : Nat → Nat} {ae : Nat → va_E} {x : va_E} : PW ci nf h0 φ n ad ae ++ [(q, x)] = PW ci nf h0 φ (n + 1) (va_up ad n q) (va_up ae n x) := by
  unfold PW
  rw [List.range_succ, List.map_append, List.cons_append]
  congr 2
  · apply List.map_congr_left
    intro j hj
    have hj := List.mem_range.mp hj
    simp only [va_up, if_neg (show ¬ j = n by omega)]
  · simp [va_up]
theorem map_set {nf k : Nat} {φ : Nat → Value} {v : Value} : ((List.range nf).map φ).set k v = (List.range nf).map (va_up φ k v) := by
  apply List.ext_getElem?
  intro i
  by_cases hi : i = k
  · subst hi
    by_cases hn : i < nf
    · rw [List.getElem?_set_self (by rw [List.length_map, List.length_range]; exact hn), List.getElem?_map, List.getElem?_range hn]
      simp [va_up]
    · rw [List.getElem?_eq_none (by rw [List.length_set, List.length_map, List.length_range]; omega), List.getElem?_eq_none (by rw [List.length_map, List.length_range]; omega)]
  · rw [List.getElem?_set_ne (Ne.symm hi), List.getElem?_map, List.getElem?_map]
    by_cases hn : i < nf
    · rw [List.getElem?_range hn]
      simp [va_up, hi]
    · rw [List.getElem?_eq_none (by rw [List.length_range]; omega)]
      rfl
theorem PW_put {ci nf h0 n k : Nat} {φ : Nat → Value} {ad : Nat → Nat} {ae : Nat → va_E} {v : Value} : (PW ci nf h0 φ n ad ae).set 0 (h0, .inr (ci, ((List.range nf).map φ).set k v)) = PW ci nf h0 (va_up φ k v) n ad ae := by
  rw [map_set]; rfl
theorem PW_arr {ci nf h0 n j : Nat} {φ : Nat → Value} {ad : Nat → Nat} {ae : Nat → va_E} (h : j < n) : (PW ci nf h0 φ n ad ae)[j + 1]? = some (ad j, ae j) := by
  unfold PW
  rw [List.getElem?_cons_succ, List.getElem?_map, List.getElem?_range h]
  rfl
theorem PW_len {ci nf h0 n : Nat} {φ : Nat → Value} {ad : Nat → Nat} {ae : Nat → va_E} : (PW ci nf h0 φ n ad ae).length = n + 1 := by
  unfold PW; rw [List.length_cons, List.length_map, List.length_range]
theorem PW_ast {ci nf h0 n j : Nat} {φ : Nat → Value} {ad : Nat → Nat} {ae : Nat → va_E} {x : va_E} (h : j < n) : (PW ci nf h0 φ n ad ae).set (j + 1) (ad j, x) = PW ci nf h0 φ n ad (va_up ae j x) := by
  apply List.ext_getElem?
  intro i
  by_cases hi : i = j + 1
  · subst hi
    rw [List.getElem?_set_self (by rw [PW_len]; omega), PW_arr h]
    simp [va_up]
  · rw [List.getElem?_set_ne (Ne.symm hi)]
    cases i with
    | zero => rfl
    | succ i =>
      by_cases hn : i < n
      · rw [PW_arr hn, PW_arr hn]
        simp only [va_up, if_neg (show ¬ i = j by omega)]
      · rw [List.getElem?_eq_none (by rw [PW_len]; omega), List.getElem?_eq_none (by rw [PW_len]; omega)]
theorem wC_objinit : Cond.code Lib.objectInit ⟨#[0xb1]⟩ 1 none ∈ bw := bw_t1 28 rfl rfl
def CW (ci nf h0 : Nat) (φ : Nat → Value) (n : Nat) (ad : Nat → Nat) (ae : Nat → va_E) (D : va_G) (A : Nat → Prop) (H0 H : Heap) (locs : List Loc) : Prop := va_P D vwCl (PW ci nf h0 φ n ad ae) H ∧ va_D A (PW ci nf h0 φ n ad ae) ∧ va_S A H0 H locs
section CT
variable {E : ExT} {p : Program} {l : Launch} {e : Env} {R : Room} {s : State} {m : MethodId} {args : Array Value} {below : List Frame} {meth : Method} {c : Code} {H : Heap} {locs : List Loc} {cells slots : Nat} {Q : State → Prop}
variable {cc : ByteArray} {nL : Nat} {own : String} {pc : Nat} {ls : Array Slot} {rest : List Value} {D : va_G} {kc : Nat → ClassId} {A : Nat → Prop} {ci nf h0 n : Nat} {φ : Nat → Value} {ad : Nat → Nat} {ae : Nat → va_E}
theorem cw_newI (C : Cx E p s m args c cc nL own D kc A) (Z : CW ci nf h0 φ n ad ae D A s.heap H locs) {N : Nat} {i : Int32} (hi : ¬ i < 0 ∧ i.toNatClampNeg = N ∧ N ≤ 20000) (hc : cells + 1 ≤ R.cells ∧ slots + N ≤ R.slots) (hd : decode cc pc = .ok (.newarray .int, 2))
    (kk : ∀ (q : Nat) (H1 : Heap), CW ci nf h0 φ (n + 1) (va_up ad n q) (va_up ae n (.inl (kc 0, N, .inl (fun _ => 0)))) D A s.heap H1 locs → W p l e R s m args below meth c H1 locs (cells + 1) (slots + N) Q (F0 m (pc + 2) ls (.ref q :: rest))) : W p l e R s m args below meth c H locs cells slots Q (F0 m pc ls (.int i :: rest)) := by
  obtain ⟨hP, hD, hS⟩ := Z
  refine va_newa (atype := .int) (a0 := (N, .inl (fun _ => 0))) C.1.1 C.1.2.1 (C.1.2.2.2.2 _ wA_int) rfl C.2.1 hP hD hS C.2.2.1 (fun cA => rfl) hi.1 hi.2.1 (by show N * 4 ≤ 536870912; omega) hc.1 hc.2 hd (fun q cA H1 hK hP hD hS => ?_)
  have e : cA = kc 0 := Option.some.inj ((va_nm_int (hK.2 4 (cA, .int) rfl).2).symm.trans (va_nm_int (hK.2 0 (kc 0, .int) rfl).2))
  subst e
  rw [PW_push] at hP hD
  exact kk q H1 ⟨hP, hD, hS⟩
theorem cw_newJ (C : Cx E p s m args c cc nL own D kc A) (Z : CW ci nf h0 φ n ad ae D A s.heap H locs) {N : Nat} {i : Int32} (hi : ¬ i < 0 ∧ i.toNatClampNeg = N ∧ N ≤ 20000) (hc : cells + 1 ≤ R.cells ∧ slots + N ≤ R.slots) (hd : decode cc pc = .ok (.newarray .long, 2))
    (kk : ∀ (q : Nat) (H1 : Heap), CW ci nf h0 φ (n + 1) (va_up ad n q) (va_up ae n (.inl (kc 1, N, .inr (.inl (fun _ => 0))))) D A s.heap H1 locs → W p l e R s m args below meth c H1 locs (cells + 1) (slots + N) Q (F0 m (pc + 2) ls (.ref q :: rest))) : W p l e R s m args below meth c H locs cells slots Q (F0 m pc ls (.int i :: rest)) := by
  obtain ⟨hP, hD, hS⟩ := Z
  refine va_newa (atype := .long) (a0 := (N, .inr (.inl (fun _ => 0)))) C.1.1 C.1.2.1 (C.1.2.2.2.2 _ wA_long) rfl C.2.1 hP hD hS C.2.2.1 (fun cA => rfl) hi.1 hi.2.1 (by show N * 8 ≤ 536870912; omega) hc.1 hc.2 hd (fun q cA H1 hK hP hD hS => ?_)
  have e : cA = kc 1 := Option.some.inj ((va_nm_long (hK.2 4 (cA, .long) rfl).2).symm.trans (va_nm_long (hK.2 1 (kc 1, .long) rfl).2))
  subst e
  rw [PW_push] at hP hD
  exact kk q H1 ⟨hP, hD, hS⟩
theorem cw_newB (C : Cx E p s m args c cc nL own D kc A) (Z : CW ci nf h0 φ n ad ae D A s.heap H locs) {N : Nat} {i : Int32} (hi : ¬ i < 0 ∧ i.toNatClampNeg = N ∧ N ≤ 20000) (hc : cells + 1 ≤ R.cells ∧ slots + N ≤ R.slots) (hd : decode cc pc = .ok (.newarray .byte, 2))
    (kk : ∀ (q : Nat) (H1 : Heap), CW ci nf h0 φ (n + 1) (va_up ad n q) (va_up ae n (.inl (kc 2, N, .inl (fun _ => 0)))) D A s.heap H1 locs → W p l e R s m args below meth c H1 locs (cells + 1) (slots + N) Q (F0 m (pc + 2) ls (.ref q :: rest))) : W p l e R s m args below meth c H locs cells slots Q (F0 m pc ls (.int i :: rest)) := by
  obtain ⟨hP, hD, hS⟩ := Z
  refine va_newa (atype := .byte) (a0 := (N, .inl (fun _ => 0))) C.1.1 C.1.2.1 (C.1.2.2.2.2 _ wA_byte) rfl C.2.1 hP hD hS C.2.2.1 (fun cA => rfl) hi.1 hi.2.1 (by show N * 1 ≤ 536870912; omega) hc.1 hc.2 hd (fun q cA H1 hK hP hD hS => ?_)
  have e : cA = kc 2 := Option.some.inj ((va_nm_byte (hK.2 4 (cA, .byte) rfl).2).symm.trans (va_nm_byte (hK.2 2 (kc 2, .byte) rfl).2))
  subst e
  rw [PW_push] at hP hD
  exact kk q H1 ⟨hP, hD, hS⟩
theorem cw_newZ (C : Cx E p s m args c cc nL own D kc A) (Z : CW ci nf h0 φ n ad ae D A s.heap H locs) {N : Nat} {i : Int32} (hi : ¬ i < 0 ∧ i.toNatClampNeg = N ∧ N ≤ 20000) (hc : cells + 1 ≤ R.cells ∧ slots + N ≤ R.slots) (hd : decode cc pc = .ok (.newarray .boolean, 2))
    (kk : ∀ (q : Nat) (H1 : Heap), CW ci nf h0 φ (n + 1) (va_up ad n q) (va_up ae n (.inl (kc 3, N, .inl (fun _ => 0)))) D A s.heap H1 locs → W p l e R s m args below meth c H1 locs (cells + 1) (slots + N) Q (F0 m (pc + 2) ls (.ref q :: rest))) : W p l e R s m args below meth c H locs cells slots Q (F0 m pc ls (.int i :: rest)) := by
  obtain ⟨hP, hD, hS⟩ := Z
  refine va_newa (atype := .boolean) (a0 := (N, .inl (fun _ => 0))) C.1.1 C.1.2.1 (C.1.2.2.2.2 _ wA_boolean) rfl C.2.1 hP hD hS C.2.2.1 (fun cA => rfl) hi.1 hi.2.1 (by show N * 1 ≤ 536870912; omega) hc.1 hc.2 hd (fun q cA H1 hK hP hD hS => ?_)
  have e : cA = kc 3 := Option.some.inj ((va_nm_boolean (hK.2 4 (cA, .boolean) rfl).2).symm.trans (va_nm_boolean (hK.2 3 (kc 3, .boolean) rfl).2))
  subst e
  rw [PW_push] at hP hD
  exact kk q H1 ⟨hP, hD, hS⟩
theorem cw_putF (C : Cx E p s m args c cc nL own D kc A) (Z : CW ci nf h0 φ n ad ae D A s.heap H locs) (hin : meth.name = "<init>") {idx : Nat} {F : u_T} {RN : String} {ty0 : Nat → FieldType} (k : Nat) (hc : vwCl[ci]? = some (RN, F, nf)) (hinX : ∀ w ∈ u_ws RN F nf, w ∈ bw) (hty : ∀ k, k < nf → parseFieldDescriptor (F k).2.2.1 = some (ty0 k)) (hnm : ∀ a, a < nf → ∀ b, b < nf → a ≠ b → (F a).2.1 ≠ (F b).2.1) (hk : k < nf) (hl : Cond.fieldLink own idx (F k).1 (F k).2.1 (F k).2.2.1 ∈ bw) (hfin : (F k).2.2.2 = true) (hdc : (F k).1 = own) {v : Value} (hn : narrow (ty0 k) v = v) (hf : fits (ty0 k) v = true) (hd : decode cc pc = .ok (.putfield idx, 3))
    (kk : ∀ (H1 : Heap) (locs1 : List Loc), CW ci nf h0 (va_up φ k v) n ad ae D A s.heap H1 locs1 → W p l e R s m args below meth c H1 locs1 cells slots Q (F0 m (pc + 3) ls rest)) : W p l e R s m args below meth c H locs cells slots Q (F0 m pc ls (v :: .ref h0 :: rest)) := by
  obtain ⟨hP, hD, hS⟩ := Z
  refine va_putF (D := D) (ci := ci) (fs := (List.range nf).map φ) C.1.1 C.1.2.1 C.1.2.2.2.2 hinX ty0 hty hnm C.1.2.2.2.1 C.2.1 hP hD hS 0 rfl hc k hk (C.1.2.2.2.2 _ hl) (fun _ h => h) hfin hin hdc (hty k hk) hn hf (by rw [List.length_map, List.length_range]; exact hk) hd (fun H1 locs1 h1 h2 h3 => kk H1 locs1 ⟨?_, ?_, h3⟩)
  · rw [PW_put] at h1; exact h1
  · rw [PW_put] at h2; exact h2
theorem cw_put (C : Cx E p s m args c cc nL own D kc A) (Z : CW ci nf h0 φ n ad ae D A s.heap H locs) {idx : Nat} {F : u_T} {RN : String} {ty0 : Nat → FieldType} (k : Nat) (hc : vwCl[ci]? = some (RN, F, nf)) (hinX : ∀ w ∈ u_ws RN F nf, w ∈ bw) (hty : ∀ k, k < nf → parseFieldDescriptor (F k).2.2.1 = some (ty0 k)) (hnm : ∀ a, a < nf → ∀ b, b < nf → a ≠ b → (F a).2.1 ≠ (F b).2.1) (hk : k < nf) (hl : Cond.fieldLink own idx (F k).1 (F k).2.1 (F k).2.2.1 ∈ bw) (hfin : (F k).2.2.2 = false) {v : Value} (hn : narrow (ty0 k) v = v) (hf : fits (ty0 k) v = true) (hd : decode cc pc = .ok (.putfield idx, 3))
    (kk : ∀ (H1 : Heap) (locs1 : List Loc), CW ci nf h0 (va_up φ k v) n ad ae D A s.heap H1 locs1 → W p l e R s m args below meth c H1 locs1 cells slots Q (F0 m (pc + 3) ls rest)) : W p l e R s m args below meth c H locs cells slots Q (F0 m pc ls (v :: .ref h0 :: rest)) := by
  obtain ⟨hP, hD, hS⟩ := Z
  refine va_put (D := D) (ci := ci) (fs := (List.range nf).map φ) C.1.1 C.1.2.1 C.1.2.2.2.2 hinX ty0 hty hnm C.1.2.2.2.1 C.2.1 hP hD hS 0 rfl hc k hk (C.1.2.2.2.2 _ hl) (fun _ h => h) hfin (hty k hk) hn hf (by rw [List.length_map, List.length_range]; exact hk) hd (fun H1 locs1 h1 h2 h3 => kk H1 locs1 ⟨?_, ?_, h3⟩)
  · rw [PW_put] at h1; exact h1
  · rw [PW_put] at h2; exact h2
theorem cw_last (C : Cx E p s m args c cc nL own D kc A) (Z : CW ci nf h0 φ n ad ae D A s.heap H locs) (j : Nat) (hj : j < n) {q N : Nat} (hq : ad j = q) {f : Nat → Int64} (he : ae j = .inl (kc 1, N, .inr (.inl f))) {i : Int32} {v : Int64} (hin : vp_in i N) (hd : decode cc pc = .ok (.lastore, 1))
    (kk : ∀ (H1 : Heap) (locs1 : List Loc), CW ci nf h0 φ n ad (va_up ae j (.inl (kc 1, N, .inr (.inl (vp_updL f i.toNatClampNeg v))))) D A s.heap H1 locs1 → W p l e R s m args below meth c H1 locs1 cells slots Q (F0 m (pc + 1) ls rest)) : W p l e R s m args below meth c H locs cells slots Q (F0 m pc ls (.long v :: .int i :: .ref q :: rest)) := by
  obtain ⟨hP, hD, hS⟩ := Z
  subst hq
  refine va_last C.1.1 C.1.2.1 C.2.1 hP hD hS (j + 1) 1 (by rw [PW_arr hj, he]) rfl hin hd (fun H1 locs1 h1 h2 h3 => kk H1 locs1 ⟨?_, ?_, h3⟩)
  · rw [PW_ast hj] at h1; exact h1
  · rw [PW_ast hj] at h2; exact h2
/-- what a constructor owes: its object (fields by default) becomes an object with its fields, and n arrays -/
def KN (kc : Nat → ClassId) (D : va_G) (l : Launch) (y : MethodName) (w0 : Cond) (rm : Room) (av : List Value) (ci nf h0 : Nat) (φ0 : Nat → Value) (n : Nat) (φ1 : (Nat → Nat) → Nat → Value) (ae : Nat → va_E) (mc ms : Nat) : Prop :=
  ∀ sz : Nat, Met l y (w0 :: bw) rm (va_Pc (.ref h0 :: av) (fun U => U.heap.size = sz ∧ va_P D vwCl (PW ci nf h0 φ0 0 (fun _ => 0) ae) U.heap ∧ va_K D vwCl (kts kc) U ∧ va_D (fun _ => True) (PW ci nf h0 φ0 0 (fun _ => 0) ae))) (va_Qv (S := Nat → Nat) (fun _ => True) (fun ad t => va_P D vwCl (PW ci nf h0 (φ1 ad) n ad ae) t.heap ∧ va_D (va_A (PW ci nf h0 φ0 0 (fun _ => 0) ae) sz) (PW ci nf h0 (φ1 ad) n ad ae)) (va_A (PW ci nf h0 φ0 0 (fun _ => 0) ae) sz)) mc ms (va_A (PW ci nf h0 φ0 0 (fun _ => 0) ae) sz)
theorem PW_eq {φ' : Nat → Value} {ae' : Nat → va_E} (h1 : (List.range nf).map φ = (List.range nf).map φ') (h2 : (List.range n).map ae = (List.range n).map ae') : PW ci nf h0 φ n ad ae = PW ci nf h0 φ' n ad ae' := by
  unfold PW
  rw [h1]
  congr 1
  apply List.map_congr_left
  intro j hj
  have hj := List.mem_range.mp hj
  have e := congrArg (fun L : List va_E => L[j]?) h2
  simp only [List.getElem?_map, List.getElem?_range hj, Option.map_some, Option.some.injEq] at e
  rw [e]
theorem cw_enter {y : MethodName} {rm : Room} {av : List Value} {mc ms : Nat} {φ0 : Nat → Value} {φ1 : (Nat → Nat) → Nat → Value} (hy : plainName y.cls = true) (hyi : y.name = "<init>") (hn : (lg_sl (.ref h0 :: av)).length ≤ nL)
    (body : ∀ (p : Program) (e : Env) (s : State) (m : MethodId) (args : Array Value) (below : List Frame) (meth : Method) (c : Code) (A : Nat → Prop), A = va_A (PW ci nf h0 φ0 0 (fun _ => 0) ae) s.heap.size → Cx eM p s m args c cc nL y.cls D kc A → meth.sig.returnType = none → meth.locks = false → meth.name = "<init>" → CW ci nf h0 φ0 0 (fun _ => 0) ae D A s.heap s.heap [] → ∀ ls : Array Slot, lv_has ls nL (lv_args 0 (.ref h0 :: av)) → W p l e rm s m args below meth c s.heap [] 0 0 (MQ below (va_Qv (S := Nat → Nat) (fun _ => True) (fun ad t => va_P D vwCl (PW ci nf h0 (φ1 ad) n ad ae) t.heap ∧ va_D A (PW ci nf h0 (φ1 ad) n ad ae)) A) args s mc ms A) (F0 m 0 ls [])) : KN kc D l y (.code y cc nL none) rm av ci nf h0 φ0 n φ1 ae mc ms := by
  intro sz
  refine Met.ofW (cc := cc) (maxL := nL) (ret := none) hy rfl ?_
  intro p e s m args below meth c s₁ B hml hv
  obtain ⟨rfl, hsz, hP, hK, hD0⟩ := hv
  have hx := B.exec
  have hb := B.bytes
  have hr := B.returns
  have hts := atoms_spec (ws := .code y cc nL none :: bw) B.pre
  have hown : s.vm.findClass y.cls = some m.cls := findClass_of_methodNamed B.named
  have hin : meth.name = "<init>" := (name_of_methodNamed B.named B.method).1.trans hyi
  have hlocks := B.notSynchronized
  subst hsz
  have hl := lv_entry (.ref h0 :: av) (n := nL) hn
  rw [lg_entry_eq]
  exact body p e s m (Value.ref h0 :: av).toArray below meth c _ rfl ⟨⟨hx, hb, hml, hown, fun w hw => hts w (List.mem_cons_of_mem _ hw)⟩, hK, fun q h => Or.inr h, trivial⟩ hr hlocks hin ⟨hP, hD0.self (sz := s.heap.size), va_S.rf⟩ _ hl
theorem cw_obj (C : Cx E p s m args c cc nL own D kc A) {idx : Nat} (hw : Cond.methodLink own idx Lib.objectInit ∈ bw) {lv : List (Nat × Value)} (hl : lv_has ls nL lv) {a : Nat} (hR : 1 ≤ R.frames ∧ 20 ≤ R.locals) (hW : (rest.map fun v => v.category).sum ≤ 8) (hd : decode cc pc = .ok (.invokespecial idx, 3)) (kk : W p l e R s m args below meth c H locs cells slots Q (F0 m (pc + 3) ls rest)) : W p l e R s m args below meth c H locs cells slots Q (F0 m pc ls (.ref a :: rest)) :=
  W.objInit C.1.1 C.1.2.1 C.1.2.2.2.1 (C.1.2.2.2.2 _ hw) (C.1.2.2.2.2 _ wIM_objinit) (C.1.2.2.2.2 _ wC_objinit) rfl (hl.1.trans C.1.2.2.1.symm) rfl hd hR.1 (by show 2 * 0 + _ + 12 ≤ _; omega) kk
theorem cw_ret {Zφ : (Nat → Nat) → Nat → Value} {ae' : Nat → va_E} {mc ms : Nat} (C : Cx E p s m args c cc nL own D kc A) (Z : CW ci nf h0 φ n ad ae D A s.heap H locs) (hr : meth.sig.returnType = none) (hlocks : meth.locks = false) (hc : cells = mc ∧ slots = ms) (h1 : (List.range nf).map φ = (List.range nf).map (Zφ ad)) (h2 : (List.range n).map ae = (List.range n).map ae') (hd : decode cc pc = .ok (.return_, 1)) : W p l e R s m args below meth c H locs cells slots (MQ below (va_Qv (S := Nat → Nat) (fun _ => True) (fun ad t => va_P D vwCl (PW ci nf h0 (Zφ ad) n ad ae') t.heap ∧ va_D A (PW ci nf h0 (Zφ ad) n ad ae')) A) args s mc ms A) (F0 m pc ls []) := by
  obtain ⟨rfl, rfl⟩ := hc
  obtain ⟨hP, hD, hS⟩ := Z
  rw [PW_eq h1 h2] at hP hD
  exact W.vret C.1.1 C.1.2.1 hr (fun t ht hW => ⟨⟨ad, rfl, trivial, by rw [ht]; exact hP, hD⟩, hS.F ht⟩) hS.2.2 hd hlocks
end CT
