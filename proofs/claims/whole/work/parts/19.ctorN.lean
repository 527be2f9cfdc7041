/-! the constructor of the class: its object, then each of its parts behind it -/
theorem va_nd_range : ∀ n : Nat, va_nd (List.range n) = true := by
  have key : ∀ (l : List Nat), l.Nodup → va_nd l = true := by
    intro l
    induction l with
    | nil => intro _; rfl
    | cons a l ih =>
      intro h
      have h2 := List.nodup_cons.mp h
      simp only [va_nd, Bool.and_eq_true, decide_eq_true_eq]
      exact ⟨h2.1, ih h2.2⟩
  intro n
  exact key _ List.nodup_range
def NW (h0 : Nat) (φ : Nat → Value) (rest : va_W) : va_W := (h0, .inr (10, (List.range 15).map φ)) :: rest
def NZ (D : va_G) (A : Nat → Prop) (H0 H : Heap) (locs : List Loc) (ws : va_W) : Prop := va_P D vwCl ws H ∧ va_D A ws ∧ va_S A H0 H locs
section NT
variable {E : ExT} {p : Program} {l : Launch} {e : Env} {R : Room} {s : State} {m : MethodId} {args : Array Value} {below : List Frame} {meth : Method} {c : Code} {H : Heap} {locs : List Loc} {cells slots : Nat} {Q : State → Prop}
variable {cc : ByteArray} {nL : Nat} {own : String} {pc : Nat} {ls : Array Slot} {rest : List Value} {D : va_G} {kc : Nat → ClassId} {A : Nat → Prop} {ci nf h0 : Nat} {φ : Nat → Value} {ws : va_W}
theorem nw_new (C : Cx E p s m args c cc nL own D kc A) (Z : NZ D A s.heap H locs ws) {idx : Nat} {F : u_T} {RN : String} {ty0 : Nat → FieldType} (hc : vwCl[ci]? = some (RN, F, nf)) (hinX : ∀ w ∈ u_ws RN F nf, w ∈ bw) (hty : ∀ k, k < nf → parseFieldDescriptor (F k).2.2.1 = some (ty0 k)) (w1 : Cond.classLink own idx RN ∈ bw) (w2 : Cond.instantiable RN nf ∈ bw) (w3 : Cond.initialized RN ∈ bw) (hR : cells + 1 ≤ R.cells ∧ slots + nf ≤ R.slots) (hd : decode cc pc = .ok (.new idx, 3))
    (kk : ∀ (q : Nat) (H1 : Heap), NZ D A s.heap H1 locs (ws ++ [(q, .inr (ci, (List.range nf).map (fun k => defaultValue (ty0 k))))]) → W p l e R s m args below meth c H1 locs (cells + 1) (slots + nf) Q (F0 m (pc + 3) ls (.ref q :: rest))) : W p l e R s m args below meth c H locs cells slots Q (F0 m pc ls rest) := by
  obtain ⟨hP, hD, hS⟩ := Z
  refine va_new (ci := ci) (fs := (List.range nf).map (fun k => defaultValue (ty0 k))) C.1.1 C.1.2.1 C.1.2.2.2.2 hinX ty0 hty C.1.2.2.2.1 (C.1.2.2.2.2 _ w1) (C.1.2.2.2.2 _ w2) (C.1.2.2.2.2 _ w3) C.2.1 hP hD hS C.2.2.1 hc (fun j hj => ?_) hR.1 hR.2 hd (fun q H1 h1 h2 h3 => kk q H1 ⟨h1, h2, h3⟩)
  unfold vp_V
  rw [List.getD_eq_getElem?_getD, List.getElem?_map, List.getElem?_range hj]
  rfl
theorem nw_after (C : Cx E p s m args c cc nL own D kc A) {q n : Nat} {φ0 : Nat → Value} {φ1 : (Nat → Nat) → Nat → Value} {ae : Nat → va_E} {mc ms : Nat} (Z : NZ D A s.heap H locs (ws ++ [(q, .inr (ci, (List.range nf).map φ0))])) {st0 : List Value} {a : Array Value}
    (hr : va_Run p l e R s m args below meth c H locs cells slots mc ms (F0 m pc ls st0) rest (va_Qv (S := Nat → Nat) (fun _ => True) (fun ad t => va_P D vwCl (PW ci nf q (φ1 ad) n ad ae) t.heap ∧ va_D (va_A (PW ci nf q φ0 0 (fun _ => 0) ae) H.size) (PW ci nf q (φ1 ad) n ad ae)) (va_A (PW ci nf q φ0 0 (fun _ => 0) ae) H.size) a) (va_A (PW ci nf q φ0 0 (fun _ => 0) ae) H.size))
    (kk : ∀ (ad : Nat → Nat) (H1 : Heap) (locs1 : List Loc), NZ D A s.heap H1 locs1 (ws ++ PW ci nf q (φ1 ad) n ad ae) → W p l e R s m args below meth c H1 locs1 (cells + mc) (slots + ms) Q (F0 m (pc + 3) ls rest)) : W p l e R s m args below meth c H locs cells slots Q (F0 m pc ls st0) := by
  obtain ⟨hP, hD, hS⟩ := Z
  have hC : [ws.length].map (fun i => (ws ++ [((q, .inr (ci, (List.range nf).map φ0)) : Nat × va_E)])[i]?) = (PW ci nf q φ0 0 (fun _ => 0) ae).map some := by
    simp [PW]
  have hRs : (List.range ws.length).map (fun i => (ws ++ [((q, .inr (ci, (List.range nf).map φ0)) : Nat × va_E)])[i]?) = ws.map some := by
    rw [← ws_places ws]
    apply List.map_congr_left
    intro i hi
    rw [List.getElem?_append_left (List.mem_range.mp hi)]
  have hFc := va_free hD hS C.2.2.1 [ws.length] hC
  refine va_callv hr hS (fun q _ h => hFc q h) hFc (fun ad t H1 locs1 ht hvm _ hB hz1 hk1 hS1 => ?_)
  obtain ⟨hP1, hD1⟩ := hB
  rw [ht] at hP1
  obtain ⟨hP2, hD2⟩ := va_join hP hD [ws.length] (List.range ws.length) hC hRs (va_nd_range _) (fun i hi h => by
    have h1 := List.mem_range.mp hi
    have h2 := List.mem_singleton.mp h
    omega) hk1 hFc hP1 hD1
  exact kk ad H1 locs1 ⟨hP2, hD2, hS1⟩
theorem nw_callN (C : Cx E p s m args c cc nL own D kc A) {q n : Nat} {φ0 : Nat → Value} {φ1 : (Nat → Nat) → Nat → Value} {ae : Nat → va_E} {mc ms : Nat} (Z : NZ D A s.heap H locs (ws ++ [(q, .inr (ci, (List.range nf).map φ0))])) {y : MethodName} {bytes : ByteArray} {maxL idx : Nat} {rm : Room} {host : String}
    (K : KN kc D l y (.code y bytes maxL none) rm [] ci nf q φ0 n φ1 ae mc ms) (hN : va_Nw (.methodLinkNest own idx y host) s) (w1 : Cond.instanceMethod y ∈ bw) (w2 : Cond.initialized y.cls ∈ bw) (w3 : Cond.code y bytes maxL none ∈ bw) (hyi : y.name = "<init>") (hd6 : y.cls ≠ "java/lang/invoke/MethodHandle" ∧ y.cls ≠ "java/lang/invoke/VarHandle" ∧ (parseMethodDescriptor y.desc).map (fun d => d.parameters.length) = some 0) {lv : List (Nat × Value)} (hl : lv_has ls nL lv) (hR : rm.cells = mc ∧ rm.slots = ms ∧ rm.frames + 1 ≤ R.frames ∧ 8 + (maxL + 11) + rm.locals ≤ R.locals ∧ cells + mc ≤ R.cells ∧ slots + ms ≤ R.slots) (hW : (rest.map fun v => v.category).sum ≤ 8) (hd : decode cc pc = .ok (.invokespecial idx, 3))
    (kk : ∀ (ad : Nat → Nat) (H1 : Heap) (locs1 : List Loc), NZ D A s.heap H1 locs1 (ws ++ PW ci nf q (φ1 ad) n ad ae) → W p l e R s m args below meth c H1 locs1 (cells + mc) (slots + ms) Q (F0 m (pc + 3) ls rest)) : W p l e R s m args below meth c H locs cells slots Q (F0 m pc ls (.ref q :: rest)) := by
  have hB := C.1.2.2.2.2
  have hPc : va_P D vwCl (PW ci nf q φ0 0 (fun _ => 0) ae) H := Z.1.sub [ws.length] (by simp [PW])
  have hDc : va_D A (PW ci nf q φ0 0 (fun _ => 0) ae) := Z.2.1.sub [ws.length] (by simp [va_nd]) (by simp [PW])
  refine nw_after C (φ0 := φ0) (a := #[.ref q]) Z (va_runIN (As := []) (rest := rest) C.1 (K H.size) ⟨va_cnB 0 hB (bw_good0 w3) rfl hR.1 hR.2.1 hN (hB _ w2) hd6 ⟨hR.2.2.1, hR.2.2.2.1⟩, hyi, hB _ w1⟩ ⟨fun a U g mk q => by obtain ⟨q0, q1, qP, qK, qD⟩ := q; exact ⟨q0, q1, qP, va_K.moved (u := U) (U := U.calling g mk a) (Vm.Alike.refl U.vm) qK, qD⟩, fun U hU hW => ⟨rfl, by rw [hU], by rw [hU]; exact hPc, va_K.moved hW.alike C.2.1, hDc.weaken (fun _ _ _ _ => trivial)⟩⟩ rfl rfl hl.1 rfl (lv_room hW) hd hR.2.2.2.2) kk
theorem nw_callI (C : Cx E p s m args c cc nL own D kc A) {q n : Nat} {φ0 : Nat → Value} {φ1 : (Nat → Nat) → Nat → Value} {ae : Nat → va_E} {mc ms : Nat} (Z : NZ D A s.heap H locs (ws ++ [(q, .inr (ci, (List.range nf).map φ0))])) {y : MethodName} {bytes : ByteArray} {maxL idx nA : Nat} {rm : Room} {As : List Value}
    (K : KN kc D l y (.code y bytes maxL none) rm As ci nf q φ0 n φ1 ae mc ms) (w0 : Cond.methodLink own idx y ∈ bw) (w1 : Cond.instanceMethod y ∈ bw) (w2 : Cond.initialized y.cls ∈ bw) (w3 : Cond.code y bytes maxL none ∈ bw) (hyi : y.name = "<init>") (hnA : As.length = nA) (hd6 : y.cls ≠ "java/lang/invoke/MethodHandle" ∧ y.cls ≠ "java/lang/invoke/VarHandle" ∧ (parseMethodDescriptor y.desc).map (fun d => d.parameters.length) = some nA) {lv : List (Nat × Value)} (hl : lv_has ls nL lv) (hR : rm.cells = mc ∧ rm.slots = ms ∧ rm.frames + 1 ≤ R.frames ∧ 8 + (maxL + 11) + rm.locals ≤ R.locals ∧ cells + mc ≤ R.cells ∧ slots + ms ≤ R.slots) (hW : (rest.map fun v => v.category).sum ≤ 8) {st0 : List Value} (hst : st0 = As.reverse ++ .ref q :: rest) (hd : decode cc pc = .ok (.invokespecial idx, 3))
    (kk : ∀ (ad : Nat → Nat) (H1 : Heap) (locs1 : List Loc), NZ D A s.heap H1 locs1 (ws ++ PW ci nf q (φ1 ad) n ad ae) → W p l e R s m args below meth c H1 locs1 (cells + mc) (slots + ms) Q (F0 m (pc + 3) ls rest)) : W p l e R s m args below meth c H locs cells slots Q (F0 m pc ls st0) := by
  have hB := C.1.2.2.2.2
  have hPc : va_P D vwCl (PW ci nf q φ0 0 (fun _ => 0) ae) H := Z.1.sub [ws.length] (by simp [PW])
  have hDc : va_D A (PW ci nf q φ0 0 (fun _ => 0) ae) := Z.2.1.sub [ws.length] (by simp [va_nd]) (by simp [PW])
  refine nw_after C (φ0 := φ0) (a := (Value.ref q :: As).toArray) Z (va_runI (As := As) (rest := rest) C.1 (K H.size) ⟨callB_of nA hB (bw_good0 w3) rfl hR.1 hR.2.1 (hB _ w2) (hB _ w0) hd6 ⟨hR.2.2.1, hR.2.2.2.1⟩, hyi, hB _ w1⟩ ⟨fun a U g mk q => by obtain ⟨q0, q1, qP, qK, qD⟩ := q; exact ⟨q0, q1, qP, va_K.moved (u := U) (U := U.calling g mk a) (Vm.Alike.refl U.vm) qK, qD⟩, fun U hU hW => ⟨rfl, by rw [hU], by rw [hU]; exact hPc, va_K.moved hW.alike C.2.1, hDc.weaken (fun _ _ _ _ => trivial)⟩⟩ rfl hnA hl.1 hst (lv_room hW) hd hR.2.2.2.2) kk
theorem nw_putF (C : Cx E p s m args c cc nL own D kc A) (Z : NZ D A s.heap H locs (NW h0 φ ws)) (hin : meth.name = "<init>") {idx : Nat} (k : Nat) (hk : k < 15) (hl : Cond.fieldLink own idx (TX10 k).1 (TX10 k).2.1 (TX10 k).2.2.1 ∈ bw) (hfin : (TX10 k).2.2.2 = true) (hdc : (TX10 k).1 = own) {v : Value} (hn : narrow (tyX10 k) v = v) (hf : fits (tyX10 k) v = true) (hd : decode cc pc = .ok (.putfield idx, 3))
    (kk : ∀ (H1 : Heap) (locs1 : List Loc), NZ D A s.heap H1 locs1 (NW h0 (va_up φ k v) ws) → W p l e R s m args below meth c H1 locs1 cells slots Q (F0 m (pc + 3) ls rest)) : W p l e R s m args below meth c H locs cells slots Q (F0 m pc ls (v :: .ref h0 :: rest)) := by
  obtain ⟨hP, hD, hS⟩ := Z
  refine va_putF (D := D) (ci := 10) (fs := (List.range 15).map φ) C.1.1 C.1.2.1 C.1.2.2.2.2 inX10 tyX10 tyX10_ok nmX10 C.1.2.2.2.1 C.2.1 hP hD hS 0 rfl rfl k hk (C.1.2.2.2.2 _ hl) (fun _ h => h) hfin hin hdc (tyX10_ok k hk) hn hf (by rw [List.length_map, List.length_range]; exact hk) hd (fun H1 locs1 h1 h2 h3 => kk H1 locs1 ⟨?_, ?_, h3⟩)
  · rw [map_set] at h1; exact h1
  · rw [map_set] at h2; exact h2
theorem nw_put (C : Cx E p s m args c cc nL own D kc A) (Z : NZ D A s.heap H locs (NW h0 φ ws)) {idx : Nat} (k : Nat) (hk : k < 15) (hl : Cond.fieldLink own idx (TX10 k).1 (TX10 k).2.1 (TX10 k).2.2.1 ∈ bw) (hfin : (TX10 k).2.2.2 = false) {v : Value} (hn : narrow (tyX10 k) v = v) (hf : fits (tyX10 k) v = true) (hd : decode cc pc = .ok (.putfield idx, 3))
    (kk : ∀ (H1 : Heap) (locs1 : List Loc), NZ D A s.heap H1 locs1 (NW h0 (va_up φ k v) ws) → W p l e R s m args below meth c H1 locs1 cells slots Q (F0 m (pc + 3) ls rest)) : W p l e R s m args below meth c H locs cells slots Q (F0 m pc ls (v :: .ref h0 :: rest)) := by
  obtain ⟨hP, hD, hS⟩ := Z
  refine va_put (D := D) (ci := 10) (fs := (List.range 15).map φ) C.1.1 C.1.2.1 C.1.2.2.2.2 inX10 tyX10 tyX10_ok nmX10 C.1.2.2.2.1 C.2.1 hP hD hS 0 rfl rfl k hk (C.1.2.2.2.2 _ hl) (fun _ h => h) hfin (tyX10_ok k hk) hn hf (by rw [List.length_map, List.length_range]; exact hk) hd (fun H1 locs1 h1 h2 h3 => kk H1 locs1 ⟨?_, ?_, h3⟩)
  · rw [map_set] at h1; exact h1
  · rw [map_set] at h2; exact h2
theorem nw_get (C : Cx E p s m args c cc nL own D kc A) (Z : NZ D A s.heap H locs (NW h0 φ ws)) {idx : Nat} (k : Nat) (hk : k < 15) (hl : Cond.fieldLink own idx (TX10 k).1 (TX10 k).2.1 (TX10 k).2.2.1 ∈ bw) {v : Value} (hv : φ k = v) (hd : decode cc pc = .ok (.getfield idx, 3))
    (kk : W p l e R s m args below meth c H locs cells slots Q (F0 m (pc + 3) ls (v :: rest))) : W p l e R s m args below meth c H locs cells slots Q (F0 m pc ls (.ref h0 :: rest)) := by
  refine va_get (D := D) (ci := 10) (fs := (List.range 15).map φ) C.1.1 C.1.2.1 C.1.2.2.2.2 inX10 C.1.2.2.2.1 C.2.1 Z.1 0 rfl rfl k hk (C.1.2.2.2.2 _ hl) (fun _ h => h) (v := v) ?_ hd kk
  rw [List.getElem?_map, List.getElem?_range hk, ← hv]; rfl
theorem nw_newI (C : Cx E p s m args c cc nL own D kc A) (Z : NZ D A s.heap H locs ws) {N : Nat} {i : Int32} (hi : ¬ i < 0 ∧ i.toNatClampNeg = N ∧ N ≤ 20000) (hc : cells + 1 ≤ R.cells ∧ slots + N ≤ R.slots) (hd : decode cc pc = .ok (.newarray .int, 2))
    (kk : ∀ (q : Nat) (H1 : Heap), NZ D A s.heap H1 locs (ws ++ [(q, .inl (kc 0, N, .inl (fun _ => 0)))]) → W p l e R s m args below meth c H1 locs (cells + 1) (slots + N) Q (F0 m (pc + 2) ls (.ref q :: rest))) : W p l e R s m args below meth c H locs cells slots Q (F0 m pc ls (.int i :: rest)) := by
  obtain ⟨hP, hD, hS⟩ := Z
  refine va_newa (atype := .int) (a0 := (N, .inl (fun _ => 0))) C.1.1 C.1.2.1 (C.1.2.2.2.2 _ wA_int) rfl C.2.1 hP hD hS C.2.2.1 (fun cA => rfl) hi.1 hi.2.1 (by show N * 4 ≤ 536870912; omega) hc.1 hc.2 hd (fun q cA H1 hK hP hD hS => ?_)
  have e : cA = kc 0 := Option.some.inj ((va_nm_int (hK.2 4 (cA, .int) rfl).2).symm.trans (va_nm_int (hK.2 0 (kc 0, .int) rfl).2))
  subst e
  exact kk q H1 ⟨hP, hD, hS⟩
theorem nw_newJ (C : Cx E p s m args c cc nL own D kc A) (Z : NZ D A s.heap H locs ws) {N : Nat} {i : Int32} (hi : ¬ i < 0 ∧ i.toNatClampNeg = N ∧ N ≤ 20000) (hc : cells + 1 ≤ R.cells ∧ slots + N ≤ R.slots) (hd : decode cc pc = .ok (.newarray .long, 2))
    (kk : ∀ (q : Nat) (H1 : Heap), NZ D A s.heap H1 locs (ws ++ [(q, .inl (kc 1, N, .inr (.inl (fun _ => 0))))]) → W p l e R s m args below meth c H1 locs (cells + 1) (slots + N) Q (F0 m (pc + 2) ls (.ref q :: rest))) : W p l e R s m args below meth c H locs cells slots Q (F0 m pc ls (.int i :: rest)) := by
  obtain ⟨hP, hD, hS⟩ := Z
  refine va_newa (atype := .long) (a0 := (N, .inr (.inl (fun _ => 0)))) C.1.1 C.1.2.1 (C.1.2.2.2.2 _ wA_long) rfl C.2.1 hP hD hS C.2.2.1 (fun cA => rfl) hi.1 hi.2.1 (by show N * 8 ≤ 536870912; omega) hc.1 hc.2 hd (fun q cA H1 hK hP hD hS => ?_)
  have e : cA = kc 1 := Option.some.inj ((va_nm_long (hK.2 4 (cA, .long) rfl).2).symm.trans (va_nm_long (hK.2 1 (kc 1, .long) rfl).2))
  subst e
  exact kk q H1 ⟨hP, hD, hS⟩
end NT
def piL : List Nat := [0, 1, 6, 11, 22, 36, 41, 46, 55, 61, 64, 38, 39, 40, 2, 3, 4, 5, 7, 8, 9, 10, 12, 13, 14, 15, 16, 17, 18, 19, 20, 21, 23, 24, 25, 26, 27, 28, 29, 30, 31, 32, 33, 34, 35, 37, 42, 43, 44, 45, 47, 48, 49, 50, 51, 52, 53, 54, 56, 57, 58, 59, 60, 62, 63, 65, 66, 67, 68, 69, 70]
def adC (h0 qX6 qX7 qX5 qX2 qX4 qX1 qX8 qX9 qX3 qX0 qa0 qa1 qa2 : Nat) (adX6 adX7 adX5 adX2 adX4 adX1 adX8 adX9 adX3 adX0 : Nat → Nat) (j : Nat) : Nat := ([h0, qX6, qX7, qX5, qX2, qX4, qX1, qX8, qX9, qX3, qX0, qa0, qa1, qa2, adX6 0, adX6 1, adX6 2, adX6 3, adX7 0, adX7 1, adX7 2, adX7 3, adX5 0, adX5 1, adX5 2, adX5 3, adX5 4, adX5 5, adX5 6, adX5 7, adX5 8, adX5 9, adX2 0, adX2 1, adX2 2, adX2 3, adX2 4, adX2 5, adX2 6, adX2 7, adX2 8, adX2 9, adX2 10, adX2 11, adX2 12, adX4 0, adX1 0, adX1 1, adX1 2, adX1 3, adX8 0, adX8 1, adX8 2, adX8 3, adX8 4, adX8 5, adX8 6, adX8 7, adX9 0, adX9 1, adX9 2, adX9 3, adX9 4, adX3 0, adX3 1, adX0 0, adX0 1, adX0 2, adX0 3, adX0 4, adX0 5] : List Nat).getD j 0
def σ0C : St := (fun k => if k = 611 then -1 else if k = 1007 then -1000000000 else if k = 3799 then 400 else 0, fun _ _ => 0, fun _ _ => 0)
def phN (h0 qX6 qX7 qX5 qX2 qX4 qX1 qX8 qX9 qX3 qX0 qa0 qa1 qa2 : Nat) (k : Nat) : Value := ([.int 0, .ref qX6, .ref qX7, .ref qX5, .ref qX2, .ref qX4, .ref qa0, .ref qa1, .ref qa2, .int 0, .ref qX1, .ref qX8, .ref qX9, .ref qX3, .ref qX0] : List Value).getD k .null
def LN (kc : Nat → ClassId) (h0 qX6 qX7 qX5 qX2 qX4 qX1 qX8 qX9 qX3 qX0 qa0 qa1 qa2 : Nat) (adX6 adX7 adX5 adX2 adX4 adX1 adX8 adX9 adX3 adX0 : Nat → Nat) : va_W := (((((((((((((((h0, .inr (10, (List.range 15).map (phN h0 qX6 qX7 qX5 qX2 qX4 qX1 qX8 qX9 qX3 qX0 qa0 qa1 qa2))) :: ([] : va_W)) ++ PW 6 6 qX6 (ph_X6 adX6) 4 adX6 (ae_X6 kc)) ++ PW 7 5 qX7 (ph_X7 adX7) 4 adX7 (ae_X7 kc)) ++ PW 5 12 qX5 (ph_X5 adX5) 10 adX5 (ae_X5 kc)) ++ PW 2 16 qX2 (ph_X2 adX2) 13 adX2 (ae_X2 kc)) ++ PW 4 10 qX4 (ph_X4 qX2 adX4) 1 adX4 (ae_X4 kc)) ++ [(qa0, .inl (kc 1, 9, .inr (.inl (fun _ => 0))))]) ++ [(qa1, .inl (kc 1, 9, .inr (.inl (fun _ => 0))))]) ++ [(qa2, .inl (kc 0, 750, .inl (fun _ => 0)))]) ++ PW 1 12 qX1 (ph_X1 adX1) 4 adX1 (ae_X1 kc)) ++ PW 8 8 qX8 (ph_X8 adX8) 8 adX8 (ae_X8 kc)) ++ PW 9 7 qX9 (ph_X9 adX9) 5 adX9 (ae_X9 kc)) ++ PW 3 3 qX3 (ph_X3 adX3) 2 adX3 (ae_X3 kc)) ++ PW 0 9 qX0 (ph_X0 adX0) 6 adX0 (ae_X0 kc))
theorem pw_X6 {kc : Nat → ClassId} {qX6 : Nat} {adX6 : Nat → Nat} : PW 6 6 qX6 (ph_X6 adX6) 4 adX6 (ae_X6 kc) = [(qX6, .inr (6, (List.range 6).map (ph_X6 adX6))), (adX6 0, ae_X6 kc 0), (adX6 1, ae_X6 kc 1), (adX6 2, ae_X6 kc 2), (adX6 3, ae_X6 kc 3)] := rfl
theorem pw_X7 {kc : Nat → ClassId} {qX7 : Nat} {adX7 : Nat → Nat} : PW 7 5 qX7 (ph_X7 adX7) 4 adX7 (ae_X7 kc) = [(qX7, .inr (7, (List.range 5).map (ph_X7 adX7))), (adX7 0, ae_X7 kc 0), (adX7 1, ae_X7 kc 1), (adX7 2, ae_X7 kc 2), (adX7 3, ae_X7 kc 3)] := rfl
theorem pw_X5 {kc : Nat → ClassId} {qX5 : Nat} {adX5 : Nat → Nat} : PW 5 12 qX5 (ph_X5 adX5) 10 adX5 (ae_X5 kc) = [(qX5, .inr (5, (List.range 12).map (ph_X5 adX5))), (adX5 0, ae_X5 kc 0), (adX5 1, ae_X5 kc 1), (adX5 2, ae_X5 kc 2), (adX5 3, ae_X5 kc 3), (adX5 4, ae_X5 kc 4), (adX5 5, ae_X5 kc 5), (adX5 6, ae_X5 kc 6), (adX5 7, ae_X5 kc 7), (adX5 8, ae_X5 kc 8), (adX5 9, ae_X5 kc 9)] := rfl
theorem pw_X2 {kc : Nat → ClassId} {qX2 : Nat} {adX2 : Nat → Nat} : PW 2 16 qX2 (ph_X2 adX2) 13 adX2 (ae_X2 kc) = [(qX2, .inr (2, (List.range 16).map (ph_X2 adX2))), (adX2 0, ae_X2 kc 0), (adX2 1, ae_X2 kc 1), (adX2 2, ae_X2 kc 2), (adX2 3, ae_X2 kc 3), (adX2 4, ae_X2 kc 4), (adX2 5, ae_X2 kc 5), (adX2 6, ae_X2 kc 6), (adX2 7, ae_X2 kc 7), (adX2 8, ae_X2 kc 8), (adX2 9, ae_X2 kc 9), (adX2 10, ae_X2 kc 10), (adX2 11, ae_X2 kc 11), (adX2 12, ae_X2 kc 12)] := rfl
theorem pw_X4 {kc : Nat → ClassId} {qX4 qX2 : Nat} {adX4 : Nat → Nat} : PW 4 10 qX4 (ph_X4 qX2 adX4) 1 adX4 (ae_X4 kc) = [(qX4, .inr (4, (List.range 10).map (ph_X4 qX2 adX4))), (adX4 0, ae_X4 kc 0)] := rfl
theorem pw_X1 {kc : Nat → ClassId} {qX1 : Nat} {adX1 : Nat → Nat} : PW 1 12 qX1 (ph_X1 adX1) 4 adX1 (ae_X1 kc) = [(qX1, .inr (1, (List.range 12).map (ph_X1 adX1))), (adX1 0, ae_X1 kc 0), (adX1 1, ae_X1 kc 1), (adX1 2, ae_X1 kc 2), (adX1 3, ae_X1 kc 3)] := rfl
theorem pw_X8 {kc : Nat → ClassId} {qX8 : Nat} {adX8 : Nat → Nat} : PW 8 8 qX8 (ph_X8 adX8) 8 adX8 (ae_X8 kc) = [(qX8, .inr (8, (List.range 8).map (ph_X8 adX8))), (adX8 0, ae_X8 kc 0), (adX8 1, ae_X8 kc 1), (adX8 2, ae_X8 kc 2), (adX8 3, ae_X8 kc 3), (adX8 4, ae_X8 kc 4), (adX8 5, ae_X8 kc 5), (adX8 6, ae_X8 kc 6), (adX8 7, ae_X8 kc 7)] := rfl
theorem pw_X9 {kc : Nat → ClassId} {qX9 : Nat} {adX9 : Nat → Nat} : PW 9 7 qX9 (ph_X9 adX9) 5 adX9 (ae_X9 kc) = [(qX9, .inr (9, (List.range 7).map (ph_X9 adX9))), (adX9 0, ae_X9 kc 0), (adX9 1, ae_X9 kc 1), (adX9 2, ae_X9 kc 2), (adX9 3, ae_X9 kc 3), (adX9 4, ae_X9 kc 4)] := rfl
theorem pw_X3 {kc : Nat → ClassId} {qX3 : Nat} {adX3 : Nat → Nat} : PW 3 3 qX3 (ph_X3 adX3) 2 adX3 (ae_X3 kc) = [(qX3, .inr (3, (List.range 3).map (ph_X3 adX3))), (adX3 0, ae_X3 kc 0), (adX3 1, ae_X3 kc 1)] := rfl
theorem pw_X0 {kc : Nat → ClassId} {qX0 : Nat} {adX0 : Nat → Nat} : PW 0 9 qX0 (ph_X0 adX0) 6 adX0 (ae_X0 kc) = [(qX0, .inr (0, (List.range 9).map (ph_X0 adX0))), (adX0 0, ae_X0 kc 0), (adX0 1, ae_X0 kc 1), (adX0 2, ae_X0 kc 2), (adX0 3, ae_X0 kc 3), (adX0 4, ae_X0 kc 4), (adX0 5, ae_X0 kc 5)] := rfl
def LF (kc : Nat → ClassId) (h0 qX6 qX7 qX5 qX2 qX4 qX1 qX8 qX9 qX3 qX0 qa0 qa1 qa2 : Nat) (adX6 adX7 adX5 adX2 adX4 adX1 adX8 adX9 adX3 adX0 : Nat → Nat) : va_W := [(h0, .inr (10, (List.range 15).map (phN h0 qX6 qX7 qX5 qX2 qX4 qX1 qX8 qX9 qX3 qX0 qa0 qa1 qa2))), (qX6, .inr (6, (List.range 6).map (ph_X6 adX6))), (adX6 0, ae_X6 kc 0), (adX6 1, ae_X6 kc 1), (adX6 2, ae_X6 kc 2), (adX6 3, ae_X6 kc 3), (qX7, .inr (7, (List.range 5).map (ph_X7 adX7))), (adX7 0, ae_X7 kc 0), (adX7 1, ae_X7 kc 1), (adX7 2, ae_X7 kc 2), (adX7 3, ae_X7 kc 3), (qX5, .inr (5, (List.range 12).map (ph_X5 adX5))), (adX5 0, ae_X5 kc 0), (adX5 1, ae_X5 kc 1), (adX5 2, ae_X5 kc 2), (adX5 3, ae_X5 kc 3), (adX5 4, ae_X5 kc 4), (adX5 5, ae_X5 kc 5), (adX5 6, ae_X5 kc 6), (adX5 7, ae_X5 kc 7), (adX5 8, ae_X5 kc 8), (adX5 9, ae_X5 kc 9), (qX2, .inr (2, (List.range 16).map (ph_X2 adX2))), (adX2 0, ae_X2 kc 0), (adX2 1, ae_X2 kc 1), (adX2 2, ae_X2 kc 2), (adX2 3, ae_X2 kc 3), (adX2 4, ae_X2 kc 4), (adX2 5, ae_X2 kc 5), (adX2 6, ae_X2 kc 6), (adX2 7, ae_X2 kc 7), (adX2 8, ae_X2 kc 8), (adX2 9, ae_X2 kc 9), (adX2 10, ae_X2 kc 10), (adX2 11, ae_X2 kc 11), (adX2 12, ae_X2 kc 12), (qX4, .inr (4, (List.range 10).map (ph_X4 qX2 adX4))), (adX4 0, ae_X4 kc 0), (qa0, .inl (kc 1, 9, .inr (.inl (fun _ => 0)))), (qa1, .inl (kc 1, 9, .inr (.inl (fun _ => 0)))), (qa2, .inl (kc 0, 750, .inl (fun _ => 0))), (qX1, .inr (1, (List.range 12).map (ph_X1 adX1))), (adX1 0, ae_X1 kc 0), (adX1 1, ae_X1 kc 1), (adX1 2, ae_X1 kc 2), (adX1 3, ae_X1 kc 3), (qX8, .inr (8, (List.range 8).map (ph_X8 adX8))), (adX8 0, ae_X8 kc 0), (adX8 1, ae_X8 kc 1), (adX8 2, ae_X8 kc 2), (adX8 3, ae_X8 kc 3), (adX8 4, ae_X8 kc 4), (adX8 5, ae_X8 kc 5), (adX8 6, ae_X8 kc 6), (adX8 7, ae_X8 kc 7), (qX9, .inr (9, (List.range 7).map (ph_X9 adX9))), (adX9 0, ae_X9 kc 0), (adX9 1, ae_X9 kc 1), (adX9 2, ae_X9 kc 2), (adX9 3, ae_X9 kc 3), (adX9 4, ae_X9 kc 4), (qX3, .inr (3, (List.range 3).map (ph_X3 adX3))), (adX3 0, ae_X3 kc 0), (adX3 1, ae_X3 kc 1), (qX0, .inr (0, (List.range 9).map (ph_X0 adX0))), (adX0 0, ae_X0 kc 0), (adX0 1, ae_X0 kc 1), (adX0 2, ae_X0 kc 2), (adX0 3, ae_X0 kc 3), (adX0 4, ae_X0 kc 4), (adX0 5, ae_X0 kc 5)]
set_option maxRecDepth 100000 in
theorem LN_eq {kc : Nat → ClassId} {h0 qX6 qX7 qX5 qX2 qX4 qX1 qX8 qX9 qX3 qX0 qa0 qa1 qa2 : Nat} {adX6 adX7 adX5 adX2 adX4 adX1 adX8 adX9 adX3 adX0 : Nat → Nat} : LN kc h0 qX6 qX7 qX5 qX2 qX4 qX1 qX8 qX9 qX3 qX0 qa0 qa1 qa2 adX6 adX7 adX5 adX2 adX4 adX1 adX8 adX9 adX3 adX0 = LF kc h0 qX6 qX7 qX5 qX2 qX4 qX1 qX8 qX9 qX3 qX0 qa0 qa1 qa2 adX6 adX7 adX5 adX2 adX4 adX1 adX8 adX9 adX3 adX0 := by
  unfold LN LF
  rw [pw_X6, pw_X7, pw_X5, pw_X2, pw_X4, pw_X1, pw_X8, pw_X9, pw_X3, pw_X0]
  simp only [List.cons_append, List.nil_append]
theorem eo_0 {h0 qX6 qX7 qX5 qX2 qX4 qX1 qX8 qX9 qX3 qX0 qa0 qa1 qa2 : Nat} {adX6 adX7 adX5 adX2 adX4 adX1 adX8 adX9 adX3 adX0 : Nat → Nat} : (List.range 15).map (phN h0 qX6 qX7 qX5 qX2 qX4 qX1 qX8 qX9 qX3 qX0 qa0 qa1 qa2) = (List.range 15).map (fval tC (adC h0 qX6 qX7 qX5 qX2 qX4 qX1 qX8 qX9 qX3 qX0 qa0 qa1 qa2 adX6 adX7 adX5 adX2 adX4 adX1 adX8 adX9 adX3 adX0) σ0C 0) := rfl
theorem eo_1 {h0 qX6 qX7 qX5 qX2 qX4 qX1 qX8 qX9 qX3 qX0 qa0 qa1 qa2 : Nat} {adX6 adX7 adX5 adX2 adX4 adX1 adX8 adX9 adX3 adX0 : Nat → Nat} : (List.range 6).map (ph_X6 adX6) = (List.range 6).map (fval tC (adC h0 qX6 qX7 qX5 qX2 qX4 qX1 qX8 qX9 qX3 qX0 qa0 qa1 qa2 adX6 adX7 adX5 adX2 adX4 adX1 adX8 adX9 adX3 adX0) σ0C 1) := rfl
theorem eo_2 {h0 qX6 qX7 qX5 qX2 qX4 qX1 qX8 qX9 qX3 qX0 qa0 qa1 qa2 : Nat} {adX6 adX7 adX5 adX2 adX4 adX1 adX8 adX9 adX3 adX0 : Nat → Nat} : (List.range 5).map (ph_X7 adX7) = (List.range 5).map (fval tC (adC h0 qX6 qX7 qX5 qX2 qX4 qX1 qX8 qX9 qX3 qX0 qa0 qa1 qa2 adX6 adX7 adX5 adX2 adX4 adX1 adX8 adX9 adX3 adX0) σ0C 2) := rfl
theorem eo_3 {h0 qX6 qX7 qX5 qX2 qX4 qX1 qX8 qX9 qX3 qX0 qa0 qa1 qa2 : Nat} {adX6 adX7 adX5 adX2 adX4 adX1 adX8 adX9 adX3 adX0 : Nat → Nat} : (List.range 12).map (ph_X5 adX5) = (List.range 12).map (fval tC (adC h0 qX6 qX7 qX5 qX2 qX4 qX1 qX8 qX9 qX3 qX0 qa0 qa1 qa2 adX6 adX7 adX5 adX2 adX4 adX1 adX8 adX9 adX3 adX0) σ0C 3) := rfl
theorem eo_4 {h0 qX6 qX7 qX5 qX2 qX4 qX1 qX8 qX9 qX3 qX0 qa0 qa1 qa2 : Nat} {adX6 adX7 adX5 adX2 adX4 adX1 adX8 adX9 adX3 adX0 : Nat → Nat} : (List.range 16).map (ph_X2 adX2) = (List.range 16).map (fval tC (adC h0 qX6 qX7 qX5 qX2 qX4 qX1 qX8 qX9 qX3 qX0 qa0 qa1 qa2 adX6 adX7 adX5 adX2 adX4 adX1 adX8 adX9 adX3 adX0) σ0C 4) := rfl
theorem eo_5 {h0 qX6 qX7 qX5 qX2 qX4 qX1 qX8 qX9 qX3 qX0 qa0 qa1 qa2 : Nat} {adX6 adX7 adX5 adX2 adX4 adX1 adX8 adX9 adX3 adX0 : Nat → Nat} : (List.range 10).map (ph_X4 qX2 adX4) = (List.range 10).map (fval tC (adC h0 qX6 qX7 qX5 qX2 qX4 qX1 qX8 qX9 qX3 qX0 qa0 qa1 qa2 adX6 adX7 adX5 adX2 adX4 adX1 adX8 adX9 adX3 adX0) σ0C 5) := rfl
theorem eo_6 {h0 qX6 qX7 qX5 qX2 qX4 qX1 qX8 qX9 qX3 qX0 qa0 qa1 qa2 : Nat} {adX6 adX7 adX5 adX2 adX4 adX1 adX8 adX9 adX3 adX0 : Nat → Nat} : (List.range 12).map (ph_X1 adX1) = (List.range 12).map (fval tC (adC h0 qX6 qX7 qX5 qX2 qX4 qX1 qX8 qX9 qX3 qX0 qa0 qa1 qa2 adX6 adX7 adX5 adX2 adX4 adX1 adX8 adX9 adX3 adX0) σ0C 6) := rfl
theorem eo_7 {h0 qX6 qX7 qX5 qX2 qX4 qX1 qX8 qX9 qX3 qX0 qa0 qa1 qa2 : Nat} {adX6 adX7 adX5 adX2 adX4 adX1 adX8 adX9 adX3 adX0 : Nat → Nat} : (List.range 8).map (ph_X8 adX8) = (List.range 8).map (fval tC (adC h0 qX6 qX7 qX5 qX2 qX4 qX1 qX8 qX9 qX3 qX0 qa0 qa1 qa2 adX6 adX7 adX5 adX2 adX4 adX1 adX8 adX9 adX3 adX0) σ0C 7) := rfl
theorem eo_8 {h0 qX6 qX7 qX5 qX2 qX4 qX1 qX8 qX9 qX3 qX0 qa0 qa1 qa2 : Nat} {adX6 adX7 adX5 adX2 adX4 adX1 adX8 adX9 adX3 adX0 : Nat → Nat} : (List.range 7).map (ph_X9 adX9) = (List.range 7).map (fval tC (adC h0 qX6 qX7 qX5 qX2 qX4 qX1 qX8 qX9 qX3 qX0 qa0 qa1 qa2 adX6 adX7 adX5 adX2 adX4 adX1 adX8 adX9 adX3 adX0) σ0C 8) := rfl
theorem eo_9 {h0 qX6 qX7 qX5 qX2 qX4 qX1 qX8 qX9 qX3 qX0 qa0 qa1 qa2 : Nat} {adX6 adX7 adX5 adX2 adX4 adX1 adX8 adX9 adX3 adX0 : Nat → Nat} : (List.range 3).map (ph_X3 adX3) = (List.range 3).map (fval tC (adC h0 qX6 qX7 qX5 qX2 qX4 qX1 qX8 qX9 qX3 qX0 qa0 qa1 qa2 adX6 adX7 adX5 adX2 adX4 adX1 adX8 adX9 adX3 adX0) σ0C 9) := rfl
theorem eo_10 {h0 qX6 qX7 qX5 qX2 qX4 qX1 qX8 qX9 qX3 qX0 qa0 qa1 qa2 : Nat} {adX6 adX7 adX5 adX2 adX4 adX1 adX8 adX9 adX3 adX0 : Nat → Nat} : (List.range 9).map (ph_X0 adX0) = (List.range 9).map (fval tC (adC h0 qX6 qX7 qX5 qX2 qX4 qX1 qX8 qX9 qX3 qX0 qa0 qa1 qa2 adX6 adX7 adX5 adX2 adX4 adX1 adX8 adX9 adX3 adX0) σ0C 10) := rfl
theorem lf_0 {kc : Nat → ClassId} {h0 qX6 qX7 qX5 qX2 qX4 qX1 qX8 qX9 qX3 qX0 qa0 qa1 qa2 : Nat} {adX6 adX7 adX5 adX2 adX4 adX1 adX8 adX9 adX3 adX0 : Nat → Nat} : (LF kc h0 qX6 qX7 qX5 qX2 qX4 qX1 qX8 qX9 qX3 qX0 qa0 qa1 qa2 adX6 adX7 adX5 adX2 adX4 adX1 adX8 adX9 adX3 adX0)[0]? = some (adC h0 qX6 qX7 qX5 qX2 qX4 qX1 qX8 qX9 qX3 qX0 qa0 qa1 qa2 adX6 adX7 adX5 adX2 adX4 adX1 adX8 adX9 adX3 adX0 0, ent tC kc (adC h0 qX6 qX7 qX5 qX2 qX4 qX1 qX8 qX9 qX3 qX0 qa0 qa1 qa2 adX6 adX7 adX5 adX2 adX4 adX1 adX8 adX9 adX3 adX0) σ0C 0) := by
  rw [ent_o (ci := 10) (n := 15) rfl, ← eo_0]
  rfl
theorem lf_1 {kc : Nat → ClassId} {h0 qX6 qX7 qX5 qX2 qX4 qX1 qX8 qX9 qX3 qX0 qa0 qa1 qa2 : Nat} {adX6 adX7 adX5 adX2 adX4 adX1 adX8 adX9 adX3 adX0 : Nat → Nat} : (LF kc h0 qX6 qX7 qX5 qX2 qX4 qX1 qX8 qX9 qX3 qX0 qa0 qa1 qa2 adX6 adX7 adX5 adX2 adX4 adX1 adX8 adX9 adX3 adX0)[1]? = some (adC h0 qX6 qX7 qX5 qX2 qX4 qX1 qX8 qX9 qX3 qX0 qa0 qa1 qa2 adX6 adX7 adX5 adX2 adX4 adX1 adX8 adX9 adX3 adX0 1, ent tC kc (adC h0 qX6 qX7 qX5 qX2 qX4 qX1 qX8 qX9 qX3 qX0 qa0 qa1 qa2 adX6 adX7 adX5 adX2 adX4 adX1 adX8 adX9 adX3 adX0) σ0C 1) := by
  rw [ent_o (ci := 6) (n := 6) rfl, ← eo_1]
  rfl
theorem lf_2 {kc : Nat → ClassId} {h0 qX6 qX7 qX5 qX2 qX4 qX1 qX8 qX9 qX3 qX0 qa0 qa1 qa2 : Nat} {adX6 adX7 adX5 adX2 adX4 adX1 adX8 adX9 adX3 adX0 : Nat → Nat} : (LF kc h0 qX6 qX7 qX5 qX2 qX4 qX1 qX8 qX9 qX3 qX0 qa0 qa1 qa2 adX6 adX7 adX5 adX2 adX4 adX1 adX8 adX9 adX3 adX0)[6]? = some (adC h0 qX6 qX7 qX5 qX2 qX4 qX1 qX8 qX9 qX3 qX0 qa0 qa1 qa2 adX6 adX7 adX5 adX2 adX4 adX1 adX8 adX9 adX3 adX0 2, ent tC kc (adC h0 qX6 qX7 qX5 qX2 qX4 qX1 qX8 qX9 qX3 qX0 qa0 qa1 qa2 adX6 adX7 adX5 adX2 adX4 adX1 adX8 adX9 adX3 adX0) σ0C 2) := by
  rw [ent_o (ci := 7) (n := 5) rfl, ← eo_2]
  rfl
theorem lf_3 {kc : Nat → ClassId} {h0 qX6 qX7 qX5 qX2 qX4 qX1 qX8 qX9 qX3 qX0 qa0 qa1 qa2 : Nat} {adX6 adX7 adX5 adX2 adX4 adX1 adX8 adX9 adX3 adX0 : Nat → Nat} : (LF kc h0 qX6 qX7 qX5 qX2 qX4 qX1 qX8 qX9 qX3 qX0 qa0 qa1 qa2 adX6 adX7 adX5 adX2 adX4 adX1 adX8 adX9 adX3 adX0)[11]? = some (adC h0 qX6 qX7 qX5 qX2 qX4 qX1 qX8 qX9 qX3 qX0 qa0 qa1 qa2 adX6 adX7 adX5 adX2 adX4 adX1 adX8 adX9 adX3 adX0 3, ent tC kc (adC h0 qX6 qX7 qX5 qX2 qX4 qX1 qX8 qX9 qX3 qX0 qa0 qa1 qa2 adX6 adX7 adX5 adX2 adX4 adX1 adX8 adX9 adX3 adX0) σ0C 3) := by
  rw [ent_o (ci := 5) (n := 12) rfl, ← eo_3]
  rfl
theorem lf_4 {kc : Nat → ClassId} {h0 qX6 qX7 qX5 qX2 qX4 qX1 qX8 qX9 qX3 qX0 qa0 qa1 qa2 : Nat} {adX6 adX7 adX5 adX2 adX4 adX1 adX8 adX9 adX3 adX0 : Nat → Nat} : (LF kc h0 qX6 qX7 qX5 qX2 qX4 qX1 qX8 qX9 qX3 qX0 qa0 qa1 qa2 adX6 adX7 adX5 adX2 adX4 adX1 adX8 adX9 adX3 adX0)[22]? = some (adC h0 qX6 qX7 qX5 qX2 qX4 qX1 qX8 qX9 qX3 qX0 qa0 qa1 qa2 adX6 adX7 adX5 adX2 adX4 adX1 adX8 adX9 adX3 adX0 4, ent tC kc (adC h0 qX6 qX7 qX5 qX2 qX4 qX1 qX8 qX9 qX3 qX0 qa0 qa1 qa2 adX6 adX7 adX5 adX2 adX4 adX1 adX8 adX9 adX3 adX0) σ0C 4) := by
  rw [ent_o (ci := 2) (n := 16) rfl, ← eo_4]
  rfl
theorem lf_5 {kc : Nat → ClassId} {h0 qX6 qX7 qX5 qX2 qX4 qX1 qX8 qX9 qX3 qX0 qa0 qa1 qa2 : Nat} {adX6 adX7 adX5 adX2 adX4 adX1 adX8 adX9 adX3 adX0 : Nat → Nat} : (LF kc h0 qX6 qX7 qX5 qX2 qX4 qX1 qX8 qX9 qX3 qX0 qa0 qa1 qa2 adX6 adX7 adX5 adX2 adX4 adX1 adX8 adX9 adX3 adX0)[36]? = some (adC h0 qX6 qX7 qX5 qX2 qX4 qX1 qX8 qX9 qX3 qX0 qa0 qa1 qa2 adX6 adX7 adX5 adX2 adX4 adX1 adX8 adX9 adX3 adX0 5, ent tC kc (adC h0 qX6 qX7 qX5 qX2 qX4 qX1 qX8 qX9 qX3 qX0 qa0 qa1 qa2 adX6 adX7 adX5 adX2 adX4 adX1 adX8 adX9 adX3 adX0) σ0C 5) := by
  rw [ent_o (ci := 4) (n := 10) rfl, ← eo_5]
  rfl
theorem lf_6 {kc : Nat → ClassId} {h0 qX6 qX7 qX5 qX2 qX4 qX1 qX8 qX9 qX3 qX0 qa0 qa1 qa2 : Nat} {adX6 adX7 adX5 adX2 adX4 adX1 adX8 adX9 adX3 adX0 : Nat → Nat} : (LF kc h0 qX6 qX7 qX5 qX2 qX4 qX1 qX8 qX9 qX3 qX0 qa0 qa1 qa2 adX6 adX7 adX5 adX2 adX4 adX1 adX8 adX9 adX3 adX0)[41]? = some (adC h0 qX6 qX7 qX5 qX2 qX4 qX1 qX8 qX9 qX3 qX0 qa0 qa1 qa2 adX6 adX7 adX5 adX2 adX4 adX1 adX8 adX9 adX3 adX0 6, ent tC kc (adC h0 qX6 qX7 qX5 qX2 qX4 qX1 qX8 qX9 qX3 qX0 qa0 qa1 qa2 adX6 adX7 adX5 adX2 adX4 adX1 adX8 adX9 adX3 adX0) σ0C 6) := by
  rw [ent_o (ci := 1) (n := 12) rfl, ← eo_6]
  rfl
theorem lf_7 {kc : Nat → ClassId} {h0 qX6 qX7 qX5 qX2 qX4 qX1 qX8 qX9 qX3 qX0 qa0 qa1 qa2 : Nat} {adX6 adX7 adX5 adX2 adX4 adX1 adX8 adX9 adX3 adX0 : Nat → Nat} : (LF kc h0 qX6 qX7 qX5 qX2 qX4 qX1 qX8 qX9 qX3 qX0 qa0 qa1 qa2 adX6 adX7 adX5 adX2 adX4 adX1 adX8 adX9 adX3 adX0)[46]? = some (adC h0 qX6 qX7 qX5 qX2 qX4 qX1 qX8 qX9 qX3 qX0 qa0 qa1 qa2 adX6 adX7 adX5 adX2 adX4 adX1 adX8 adX9 adX3 adX0 7, ent tC kc (adC h0 qX6 qX7 qX5 qX2 qX4 qX1 qX8 qX9 qX3 qX0 qa0 qa1 qa2 adX6 adX7 adX5 adX2 adX4 adX1 adX8 adX9 adX3 adX0) σ0C 7) := by
  rw [ent_o (ci := 8) (n := 8) rfl, ← eo_7]
  rfl
theorem lf_8 {kc : Nat → ClassId} {h0 qX6 qX7 qX5 qX2 qX4 qX1 qX8 qX9 qX3 qX0 qa0 qa1 qa2 : Nat} {adX6 adX7 adX5 adX2 adX4 adX1 adX8 adX9 adX3 adX0 : Nat → Nat} : (LF kc h0 qX6 qX7 qX5 qX2 qX4 qX1 qX8 qX9 qX3 qX0 qa0 qa1 qa2 adX6 adX7 adX5 adX2 adX4 adX1 adX8 adX9 adX3 adX0)[55]? = some (adC h0 qX6 qX7 qX5 qX2 qX4 qX1 qX8 qX9 qX3 qX0 qa0 qa1 qa2 adX6 adX7 adX5 adX2 adX4 adX1 adX8 adX9 adX3 adX0 8, ent tC kc (adC h0 qX6 qX7 qX5 qX2 qX4 qX1 qX8 qX9 qX3 qX0 qa0 qa1 qa2 adX6 adX7 adX5 adX2 adX4 adX1 adX8 adX9 adX3 adX0) σ0C 8) := by
  rw [ent_o (ci := 9) (n := 7) rfl, ← eo_8]
  rfl
theorem lf_9 {kc : Nat → ClassId} {h0 qX6 qX7 qX5 qX2 qX4 qX1 qX8 qX9 qX3 qX0 qa0 qa1 qa2 : Nat} {adX6 adX7 adX5 adX2 adX4 adX1 adX8 adX9 adX3 adX0 : Nat → Nat} : (LF kc h0 qX6 qX7 qX5 qX2 qX4 qX1 qX8 qX9 qX3 qX0 qa0 qa1 qa2 adX6 adX7 adX5 adX2 adX4 adX1 adX8 adX9 adX3 adX0)[61]? = some (adC h0 qX6 qX7 qX5 qX2 qX4 qX1 qX8 qX9 qX3 qX0 qa0 qa1 qa2 adX6 adX7 adX5 adX2 adX4 adX1 adX8 adX9 adX3 adX0 9, ent tC kc (adC h0 qX6 qX7 qX5 qX2 qX4 qX1 qX8 qX9 qX3 qX0 qa0 qa1 qa2 adX6 adX7 adX5 adX2 adX4 adX1 adX8 adX9 adX3 adX0) σ0C 9) := by
  rw [ent_o (ci := 3) (n := 3) rfl, ← eo_9]
  rfl
theorem lf_10 {kc : Nat → ClassId} {h0 qX6 qX7 qX5 qX2 qX4 qX1 qX8 qX9 qX3 qX0 qa0 qa1 qa2 : Nat} {adX6 adX7 adX5 adX2 adX4 adX1 adX8 adX9 adX3 adX0 : Nat → Nat} : (LF kc h0 qX6 qX7 qX5 qX2 qX4 qX1 qX8 qX9 qX3 qX0 qa0 qa1 qa2 adX6 adX7 adX5 adX2 adX4 adX1 adX8 adX9 adX3 adX0)[64]? = some (adC h0 qX6 qX7 qX5 qX2 qX4 qX1 qX8 qX9 qX3 qX0 qa0 qa1 qa2 adX6 adX7 adX5 adX2 adX4 adX1 adX8 adX9 adX3 adX0 10, ent tC kc (adC h0 qX6 qX7 qX5 qX2 qX4 qX1 qX8 qX9 qX3 qX0 qa0 qa1 qa2 adX6 adX7 adX5 adX2 adX4 adX1 adX8 adX9 adX3 adX0) σ0C 10) := by
  rw [ent_o (ci := 0) (n := 9) rfl, ← eo_10]
  rfl
theorem lf_11 {kc : Nat → ClassId} {h0 qX6 qX7 qX5 qX2 qX4 qX1 qX8 qX9 qX3 qX0 qa0 qa1 qa2 : Nat} {adX6 adX7 adX5 adX2 adX4 adX1 adX8 adX9 adX3 adX0 : Nat → Nat} : (LF kc h0 qX6 qX7 qX5 qX2 qX4 qX1 qX8 qX9 qX3 qX0 qa0 qa1 qa2 adX6 adX7 adX5 adX2 adX4 adX1 adX8 adX9 adX3 adX0)[38]? = some (adC h0 qX6 qX7 qX5 qX2 qX4 qX1 qX8 qX9 qX3 qX0 qa0 qa1 qa2 adX6 adX7 adX5 adX2 adX4 adX1 adX8 adX9 adX3 adX0 11, ent tC kc (adC h0 qX6 qX7 qX5 qX2 qX4 qX1 qX8 qX9 qX3 qX0 qa0 qa1 qa2 adX6 adX7 adX5 adX2 adX4 adX1 adX8 adX9 adX3 adX0) σ0C 11) := rfl
theorem lf_12 {kc : Nat → ClassId} {h0 qX6 qX7 qX5 qX2 qX4 qX1 qX8 qX9 qX3 qX0 qa0 qa1 qa2 : Nat} {adX6 adX7 adX5 adX2 adX4 adX1 adX8 adX9 adX3 adX0 : Nat → Nat} : (LF kc h0 qX6 qX7 qX5 qX2 qX4 qX1 qX8 qX9 qX3 qX0 qa0 qa1 qa2 adX6 adX7 adX5 adX2 adX4 adX1 adX8 adX9 adX3 adX0)[39]? = some (adC h0 qX6 qX7 qX5 qX2 qX4 qX1 qX8 qX9 qX3 qX0 qa0 qa1 qa2 adX6 adX7 adX5 adX2 adX4 adX1 adX8 adX9 adX3 adX0 12, ent tC kc (adC h0 qX6 qX7 qX5 qX2 qX4 qX1 qX8 qX9 qX3 qX0 qa0 qa1 qa2 adX6 adX7 adX5 adX2 adX4 adX1 adX8 adX9 adX3 adX0) σ0C 12) := rfl
theorem lf_13 {kc : Nat → ClassId} {h0 qX6 qX7 qX5 qX2 qX4 qX1 qX8 qX9 qX3 qX0 qa0 qa1 qa2 : Nat} {adX6 adX7 adX5 adX2 adX4 adX1 adX8 adX9 adX3 adX0 : Nat → Nat} : (LF kc h0 qX6 qX7 qX5 qX2 qX4 qX1 qX8 qX9 qX3 qX0 qa0 qa1 qa2 adX6 adX7 adX5 adX2 adX4 adX1 adX8 adX9 adX3 adX0)[40]? = some (adC h0 qX6 qX7 qX5 qX2 qX4 qX1 qX8 qX9 qX3 qX0 qa0 qa1 qa2 adX6 adX7 adX5 adX2 adX4 adX1 adX8 adX9 adX3 adX0 13, ent tC kc (adC h0 qX6 qX7 qX5 qX2 qX4 qX1 qX8 qX9 qX3 qX0 qa0 qa1 qa2 adX6 adX7 adX5 adX2 adX4 adX1 adX8 adX9 adX3 adX0) σ0C 13) := rfl
theorem lf_14 {kc : Nat → ClassId} {h0 qX6 qX7 qX5 qX2 qX4 qX1 qX8 qX9 qX3 qX0 qa0 qa1 qa2 : Nat} {adX6 adX7 adX5 adX2 adX4 adX1 adX8 adX9 adX3 adX0 : Nat → Nat} : (LF kc h0 qX6 qX7 qX5 qX2 qX4 qX1 qX8 qX9 qX3 qX0 qa0 qa1 qa2 adX6 adX7 adX5 adX2 adX4 adX1 adX8 adX9 adX3 adX0)[2]? = some (adC h0 qX6 qX7 qX5 qX2 qX4 qX1 qX8 qX9 qX3 qX0 qa0 qa1 qa2 adX6 adX7 adX5 adX2 adX4 adX1 adX8 adX9 adX3 adX0 14, ent tC kc (adC h0 qX6 qX7 qX5 qX2 qX4 qX1 qX8 qX9 qX3 qX0 qa0 qa1 qa2 adX6 adX7 adX5 adX2 adX4 adX1 adX8 adX9 adX3 adX0) σ0C 14) := rfl
theorem lf_15 {kc : Nat → ClassId} {h0 qX6 qX7 qX5 qX2 qX4 qX1 qX8 qX9 qX3 qX0 qa0 qa1 qa2 : Nat} {adX6 adX7 adX5 adX2 adX4 adX1 adX8 adX9 adX3 adX0 : Nat → Nat} : (LF kc h0 qX6 qX7 qX5 qX2 qX4 qX1 qX8 qX9 qX3 qX0 qa0 qa1 qa2 adX6 adX7 adX5 adX2 adX4 adX1 adX8 adX9 adX3 adX0)[3]? = some (adC h0 qX6 qX7 qX5 qX2 qX4 qX1 qX8 qX9 qX3 qX0 qa0 qa1 qa2 adX6 adX7 adX5 adX2 adX4 adX1 adX8 adX9 adX3 adX0 15, ent tC kc (adC h0 qX6 qX7 qX5 qX2 qX4 qX1 qX8 qX9 qX3 qX0 qa0 qa1 qa2 adX6 adX7 adX5 adX2 adX4 adX1 adX8 adX9 adX3 adX0) σ0C 15) := rfl
theorem lf_16 {kc : Nat → ClassId} {h0 qX6 qX7 qX5 qX2 qX4 qX1 qX8 qX9 qX3 qX0 qa0 qa1 qa2 : Nat} {adX6 adX7 adX5 adX2 adX4 adX1 adX8 adX9 adX3 adX0 : Nat → Nat} : (LF kc h0 qX6 qX7 qX5 qX2 qX4 qX1 qX8 qX9 qX3 qX0 qa0 qa1 qa2 adX6 adX7 adX5 adX2 adX4 adX1 adX8 adX9 adX3 adX0)[4]? = some (adC h0 qX6 qX7 qX5 qX2 qX4 qX1 qX8 qX9 qX3 qX0 qa0 qa1 qa2 adX6 adX7 adX5 adX2 adX4 adX1 adX8 adX9 adX3 adX0 16, ent tC kc (adC h0 qX6 qX7 qX5 qX2 qX4 qX1 qX8 qX9 qX3 qX0 qa0 qa1 qa2 adX6 adX7 adX5 adX2 adX4 adX1 adX8 adX9 adX3 adX0) σ0C 16) := rfl
theorem lf_17 {kc : Nat → ClassId} {h0 qX6 qX7 qX5 qX2 qX4 qX1 qX8 qX9 qX3 qX0 qa0 qa1 qa2 : Nat} {adX6 adX7 adX5 adX2 adX4 adX1 adX8 adX9 adX3 adX0 : Nat → Nat} : (LF kc h0 qX6 qX7 qX5 qX2 qX4 qX1 qX8 qX9 qX3 qX0 qa0 qa1 qa2 adX6 adX7 adX5 adX2 adX4 adX1 adX8 adX9 adX3 adX0)[5]? = some (adC h0 qX6 qX7 qX5 qX2 qX4 qX1 qX8 qX9 qX3 qX0 qa0 qa1 qa2 adX6 adX7 adX5 adX2 adX4 adX1 adX8 adX9 adX3 adX0 17, ent tC kc (adC h0 qX6 qX7 qX5 qX2 qX4 qX1 qX8 qX9 qX3 qX0 qa0 qa1 qa2 adX6 adX7 adX5 adX2 adX4 adX1 adX8 adX9 adX3 adX0) σ0C 17) := rfl
theorem lf_18 {kc : Nat → ClassId} {h0 qX6 qX7 qX5 qX2 qX4 qX1 qX8 qX9 qX3 qX0 qa0 qa1 qa2 : Nat} {adX6 adX7 adX5 adX2 adX4 adX1 adX8 adX9 adX3 adX0 : Nat → Nat} : (LF kc h0 qX6 qX7 qX5 qX2 qX4 qX1 qX8 qX9 qX3 qX0 qa0 qa1 qa2 adX6 adX7 adX5 adX2 adX4 adX1 adX8 adX9 adX3 adX0)[7]? = some (adC h0 qX6 qX7 qX5 qX2 qX4 qX1 qX8 qX9 qX3 qX0 qa0 qa1 qa2 adX6 adX7 adX5 adX2 adX4 adX1 adX8 adX9 adX3 adX0 18, ent tC kc (adC h0 qX6 qX7 qX5 qX2 qX4 qX1 qX8 qX9 qX3 qX0 qa0 qa1 qa2 adX6 adX7 adX5 adX2 adX4 adX1 adX8 adX9 adX3 adX0) σ0C 18) := rfl
theorem lf_19 {kc : Nat → ClassId} {h0 qX6 qX7 qX5 qX2 qX4 qX1 qX8 qX9 qX3 qX0 qa0 qa1 qa2 : Nat} {adX6 adX7 adX5 adX2 adX4 adX1 adX8 adX9 adX3 adX0 : Nat → Nat} : (LF kc h0 qX6 qX7 qX5 qX2 qX4 qX1 qX8 qX9 qX3 qX0 qa0 qa1 qa2 adX6 adX7 adX5 adX2 adX4 adX1 adX8 adX9 adX3 adX0)[8]? = some (adC h0 qX6 qX7 qX5 qX2 qX4 qX1 qX8 qX9 qX3 qX0 qa0 qa1 qa2 adX6 adX7 adX5 adX2 adX4 adX1 adX8 adX9 adX3 adX0 19, ent tC kc (adC h0 qX6 qX7 qX5 qX2 qX4 qX1 qX8 qX9 qX3 qX0 qa0 qa1 qa2 adX6 adX7 adX5 adX2 adX4 adX1 adX8 adX9 adX3 adX0) σ0C 19) := rfl
theorem lf_20 {kc : Nat → ClassId} {h0 qX6 qX7 qX5 qX2 qX4 qX1 qX8 qX9 qX3 qX0 qa0 qa1 qa2 : Nat} {adX6 adX7 adX5 adX2 adX4 adX1 adX8 adX9 adX3 adX0 : Nat → Nat} : (LF kc h0 qX6 qX7 qX5 qX2 qX4 qX1 qX8 qX9 qX3 qX0 qa0 qa1 qa2 adX6 adX7 adX5 adX2 adX4 adX1 adX8 adX9 adX3 adX0)[9]? = some (adC h0 qX6 qX7 qX5 qX2 qX4 qX1 qX8 qX9 qX3 qX0 qa0 qa1 qa2 adX6 adX7 adX5 adX2 adX4 adX1 adX8 adX9 adX3 adX0 20, ent tC kc (adC h0 qX6 qX7 qX5 qX2 qX4 qX1 qX8 qX9 qX3 qX0 qa0 qa1 qa2 adX6 adX7 adX5 adX2 adX4 adX1 adX8 adX9 adX3 adX0) σ0C 20) := rfl
theorem lf_21 {kc : Nat → ClassId} {h0 qX6 qX7 qX5 qX2 qX4 qX1 qX8 qX9 qX3 qX0 qa0 qa1 qa2 : Nat} {adX6 adX7 adX5 adX2 adX4 adX1 adX8 adX9 adX3 adX0 : Nat → Nat} : (LF kc h0 qX6 qX7 qX5 qX2 qX4 qX1 qX8 qX9 qX3 qX0 qa0 qa1 qa2 adX6 adX7 adX5 adX2 adX4 adX1 adX8 adX9 adX3 adX0)[10]? = some (adC h0 qX6 qX7 qX5 qX2 qX4 qX1 qX8 qX9 qX3 qX0 qa0 qa1 qa2 adX6 adX7 adX5 adX2 adX4 adX1 adX8 adX9 adX3 adX0 21, ent tC kc (adC h0 qX6 qX7 qX5 qX2 qX4 qX1 qX8 qX9 qX3 qX0 qa0 qa1 qa2 adX6 adX7 adX5 adX2 adX4 adX1 adX8 adX9 adX3 adX0) σ0C 21) := rfl
theorem lf_22 {kc : Nat → ClassId} {h0 qX6 qX7 qX5 qX2 qX4 qX1 qX8 qX9 qX3 qX0 qa0 qa1 qa2 : Nat} {adX6 adX7 adX5 adX2 adX4 adX1 adX8 adX9 adX3 adX0 : Nat → Nat} : (LF kc h0 qX6 qX7 qX5 qX2 qX4 qX1 qX8 qX9 qX3 qX0 qa0 qa1 qa2 adX6 adX7 adX5 adX2 adX4 adX1 adX8 adX9 adX3 adX0)[12]? = some (adC h0 qX6 qX7 qX5 qX2 qX4 qX1 qX8 qX9 qX3 qX0 qa0 qa1 qa2 adX6 adX7 adX5 adX2 adX4 adX1 adX8 adX9 adX3 adX0 22, ent tC kc (adC h0 qX6 qX7 qX5 qX2 qX4 qX1 qX8 qX9 qX3 qX0 qa0 qa1 qa2 adX6 adX7 adX5 adX2 adX4 adX1 adX8 adX9 adX3 adX0) σ0C 22) := rfl
theorem lf_23 {kc : Nat → ClassId} {h0 qX6 qX7 qX5 qX2 qX4 qX1 qX8 qX9 qX3 qX0 qa0 qa1 qa2 : Nat} {adX6 adX7 adX5 adX2 adX4 adX1 adX8 adX9 adX3 adX0 : Nat → Nat} : (LF kc h0 qX6 qX7 qX5 qX2 qX4 qX1 qX8 qX9 qX3 qX0 qa0 qa1 qa2 adX6 adX7 adX5 adX2 adX4 adX1 adX8 adX9 adX3 adX0)[13]? = some (adC h0 qX6 qX7 qX5 qX2 qX4 qX1 qX8 qX9 qX3 qX0 qa0 qa1 qa2 adX6 adX7 adX5 adX2 adX4 adX1 adX8 adX9 adX3 adX0 23, ent tC kc (adC h0 qX6 qX7 qX5 qX2 qX4 qX1 qX8 qX9 qX3 qX0 qa0 qa1 qa2 adX6 adX7 adX5 adX2 adX4 adX1 adX8 adX9 adX3 adX0) σ0C 23) := rfl
theorem lf_24 {kc : Nat → ClassId} {h0 qX6 qX7 qX5 qX2 qX4 qX1 qX8 qX9 qX3 qX0 qa0 qa1 qa2 : Nat} {adX6 adX7 adX5 adX2 adX4 adX1 adX8 adX9 adX3 adX0 : Nat → Nat} : (LF kc h0 qX6 qX7 qX5 qX2 qX4 qX1 qX8 qX9 qX3 qX0 qa0 qa1 qa2 adX6 adX7 adX5 adX2 adX4 adX1 adX8 adX9 adX3 adX0)[14]? = some (adC h0 qX6 qX7 qX5 qX2 qX4 qX1 qX8 qX9 qX3 qX0 qa0 qa1 qa2 adX6 adX7 adX5 adX2 adX4 adX1 adX8 adX9 adX3 adX0 24, ent tC kc (adC h0 qX6 qX7 qX5 qX2 qX4 qX1 qX8 qX9 qX3 qX0 qa0 qa1 qa2 adX6 adX7 adX5 adX2 adX4 adX1 adX8 adX9 adX3 adX0) σ0C 24) := rfl
theorem lf_25 {kc : Nat → ClassId} {h0 qX6 qX7 qX5 qX2 qX4 qX1 qX8 qX9 qX3 qX0 qa0 qa1 qa2 : Nat} {adX6 adX7 adX5 adX2 adX4 adX1 adX8 adX9 adX3 adX0 : Nat → Nat} : (LF kc h0 qX6 qX7 qX5 qX2 qX4 qX1 qX8 qX9 qX3 qX0 qa0 qa1 qa2 adX6 adX7 adX5 adX2 adX4 adX1 adX8 adX9 adX3 adX0)[15]? = some (adC h0 qX6 qX7 qX5 qX2 qX4 qX1 qX8 qX9 qX3 qX0 qa0 qa1 qa2 adX6 adX7 adX5 adX2 adX4 adX1 adX8 adX9 adX3 adX0 25, ent tC kc (adC h0 qX6 qX7 qX5 qX2 qX4 qX1 qX8 qX9 qX3 qX0 qa0 qa1 qa2 adX6 adX7 adX5 adX2 adX4 adX1 adX8 adX9 adX3 adX0) σ0C 25) := rfl
theorem lf_26 {kc : Nat → ClassId} {h0 qX6 qX7 qX5 qX2 qX4 qX1 qX8 qX9 qX3 qX0 qa0 qa1 qa2 : Nat} {adX6 adX7 adX5 adX2 adX4 adX1 adX8 adX9 adX3 adX0 : Nat → Nat} : (LF kc h0 qX6 qX7 qX5 qX2 qX4 qX1 qX8 qX9 qX3 qX0 qa0 qa1 qa2 adX6 adX7 adX5 adX2 adX4 adX1 adX8 adX9 adX3 adX0)[16]? = some (adC h0 qX6 qX7 qX5 qX2 qX4 qX1 qX8 qX9 qX3 qX0 qa0 qa1 qa2 adX6 adX7 adX5 adX2 adX4 adX1 adX8 adX9 adX3 adX0 26, ent tC kc (adC h0 qX6 qX7 qX5 qX2 qX4 qX1 qX8 qX9 qX3 qX0 qa0 qa1 qa2 adX6 adX7 adX5 adX2 adX4 adX1 adX8 adX9 adX3 adX0) σ0C 26) := rfl
theorem lf_27 {kc : Nat → ClassId} {h0 qX6 qX7 qX5 qX2 qX4 qX1 qX8 qX9 qX3 qX0 qa0 qa1 qa2 : Nat} {adX6 adX7 adX5 adX2 adX4 adX1 adX8 adX9 adX3 adX0 : Nat → Nat} : (LF kc h0 qX6 qX7 qX5 qX2 qX4 qX1 qX8 qX9 qX3 qX0 qa0 qa1 qa2 adX6 adX7 adX5 adX2 adX4 adX1 adX8 adX9 adX3 adX0)[17]? = some (adC h0 qX6 qX7 qX5 qX2 qX4 qX1 qX8 qX9 qX3 qX0 qa0 qa1 qa2 adX6 adX7 adX5 adX2 adX4 adX1 adX8 adX9 adX3 adX0 27, ent tC kc (adC h0 qX6 qX7 qX5 qX2 qX4 qX1 qX8 qX9 qX3 qX0 qa0 qa1 qa2 adX6 adX7 adX5 adX2 adX4 adX1 adX8 adX9 adX3 adX0) σ0C 27) := rfl
theorem lf_28 {kc : Nat → ClassId} {h0 qX6 qX7 qX5 qX2 qX4 qX1 qX8 qX9 qX3 qX0 qa0 qa1 qa2 : Nat} {adX6 adX7 adX5 adX2 adX4 adX1 adX8 adX9 adX3 adX0 : Nat → Nat} : (LF kc h0 qX6 qX7 qX5 qX2 qX4 qX1 qX8 qX9 qX3 qX0 qa0 qa1 qa2 adX6 adX7 adX5 adX2 adX4 adX1 adX8 adX9 adX3 adX0)[18]? = some (adC h0 qX6 qX7 qX5 qX2 qX4 qX1 qX8 qX9 qX3 qX0 qa0 qa1 qa2 adX6 adX7 adX5 adX2 adX4 adX1 adX8 adX9 adX3 adX0 28, ent tC kc (adC h0 qX6 qX7 qX5 qX2 qX4 qX1 qX8 qX9 qX3 qX0 qa0 qa1 qa2 adX6 adX7 adX5 adX2 adX4 adX1 adX8 adX9 adX3 adX0) σ0C 28) := rfl
theorem lf_29 {kc : Nat → ClassId} {h0 qX6 qX7 qX5 qX2 qX4 qX1 qX8 qX9 qX3 qX0 qa0 qa1 qa2 : Nat} {adX6 adX7 adX5 adX2 adX4 adX1 adX8 adX9 adX3 adX0 : Nat → Nat} : (LF kc h0 qX6 qX7 qX5 qX2 qX4 qX1 qX8 qX9 qX3 qX0 qa0 qa1 qa2 adX6 adX7 adX5 adX2 adX4 adX1 adX8 adX9 adX3 adX0)[19]? = some (adC h0 qX6 qX7 qX5 qX2 qX4 qX1 qX8 qX9 qX3 qX0 qa0 qa1 qa2 adX6 adX7 adX5 adX2 adX4 adX1 adX8 adX9 adX3 adX0 29, ent tC kc (adC h0 qX6 qX7 qX5 qX2 qX4 qX1 qX8 qX9 qX3 qX0 qa0 qa1 qa2 adX6 adX7 adX5 adX2 adX4 adX1 adX8 adX9 adX3 adX0) σ0C 29) := rfl
theorem lf_30 {kc : Nat → ClassId} {h0 qX6 qX7 qX5 qX2 qX4 qX1 qX8 qX9 qX3 qX0 qa0 qa1 qa2 : Nat} {adX6 adX7 adX5 adX2 adX4 adX1 adX8 adX9 adX3 adX0 : Nat → Nat} : (LF kc h0 qX6 qX7 qX5 qX2 qX4 qX1 qX8 qX9 qX3 qX0 qa0 qa1 qa2 adX6 adX7 adX5 adX2 adX4 adX1 adX8 adX9 adX3 adX0)[20]? = some (adC h0 qX6 qX7 qX5 qX2 qX4 qX1 qX8 qX9 qX3 qX0 qa0 qa1 qa2 adX6 adX7 adX5 adX2 adX4 adX1 adX8 adX9 adX3 adX0 30, ent tC kc (adC h0 qX6 qX7 qX5 qX2 qX4 qX1 qX8 qX9 qX3 qX0 qa0 qa1 qa2 adX6 adX7 adX5 adX2 adX4 adX1 adX8 adX9 adX3 adX0) σ0C 30) := rfl
theorem lf_31 {kc : Nat → ClassId} {h0 qX6 qX7 qX5 qX2 qX4 qX1 qX8 qX9 qX3 qX0 qa0 qa1 qa2 : Nat} {adX6 adX7 adX5 adX2 adX4 adX1 adX8 adX9 adX3 adX0 : Nat → Nat} : (LF kc h0 qX6 qX7 qX5 qX2 qX4 qX1 qX8 qX9 qX3 qX0 qa0 qa1 qa2 adX6 adX7 adX5 adX2 adX4 adX1 adX8 adX9 adX3 adX0)[21]? = some (adC h0 qX6 qX7 qX5 qX2 qX4 qX1 qX8 qX9 qX3 qX0 qa0 qa1 qa2 adX6 adX7 adX5 adX2 adX4 adX1 adX8 adX9 adX3 adX0 31, ent tC kc (adC h0 qX6 qX7 qX5 qX2 qX4 qX1 qX8 qX9 qX3 qX0 qa0 qa1 qa2 adX6 adX7 adX5 adX2 adX4 adX1 adX8 adX9 adX3 adX0) σ0C 31) := rfl
theorem lf_32 {kc : Nat → ClassId} {h0 qX6 qX7 qX5 qX2 qX4 qX1 qX8 qX9 qX3 qX0 qa0 qa1 qa2 : Nat} {adX6 adX7 adX5 adX2 adX4 adX1 adX8 adX9 adX3 adX0 : Nat → Nat} : (LF kc h0 qX6 qX7 qX5 qX2 qX4 qX1 qX8 qX9 qX3 qX0 qa0 qa1 qa2 adX6 adX7 adX5 adX2 adX4 adX1 adX8 adX9 adX3 adX0)[23]? = some (adC h0 qX6 qX7 qX5 qX2 qX4 qX1 qX8 qX9 qX3 qX0 qa0 qa1 qa2 adX6 adX7 adX5 adX2 adX4 adX1 adX8 adX9 adX3 adX0 32, ent tC kc (adC h0 qX6 qX7 qX5 qX2 qX4 qX1 qX8 qX9 qX3 qX0 qa0 qa1 qa2 adX6 adX7 adX5 adX2 adX4 adX1 adX8 adX9 adX3 adX0) σ0C 32) := rfl
theorem lf_33 {kc : Nat → ClassId} {h0 qX6 qX7 qX5 qX2 qX4 qX1 qX8 qX9 qX3 qX0 qa0 qa1 qa2 : Nat} {adX6 adX7 adX5 adX2 adX4 adX1 adX8 adX9 adX3 adX0 : Nat → Nat} : (LF kc h0 qX6 qX7 qX5 qX2 qX4 qX1 qX8 qX9 qX3 qX0 qa0 qa1 qa2 adX6 adX7 adX5 adX2 adX4 adX1 adX8 adX9 adX3 adX0)[24]? = some (adC h0 qX6 qX7 qX5 qX2 qX4 qX1 qX8 qX9 qX3 qX0 qa0 qa1 qa2 adX6 adX7 adX5 adX2 adX4 adX1 adX8 adX9 adX3 adX0 33, ent tC kc (adC h0 qX6 qX7 qX5 qX2 qX4 qX1 qX8 qX9 qX3 qX0 qa0 qa1 qa2 adX6 adX7 adX5 adX2 adX4 adX1 adX8 adX9 adX3 adX0) σ0C 33) := rfl
theorem lf_34 {kc : Nat → ClassId} {h0 qX6 qX7 qX5 qX2 qX4 qX1 qX8 qX9 qX3 qX0 qa0 qa1 qa2 : Nat} {adX6 adX7 adX5 adX2 adX4 adX1 adX8 adX9 adX3 adX0 : Nat → Nat} : (LF kc h0 qX6 qX7 qX5 qX2 qX4 qX1 qX8 qX9 qX3 qX0 qa0 qa1 qa2 adX6 adX7 adX5 adX2 adX4 adX1 adX8 adX9 adX3 adX0)[25]? = some (adC h0 qX6 qX7 qX5 qX2 qX4 qX1 qX8 qX9 qX3 qX0 qa0 qa1 qa2 adX6 adX7 adX5 adX2 adX4 adX1 adX8 adX9 adX3 adX0 34, ent tC kc (adC h0 qX6 qX7 qX5 qX2 qX4 qX1 qX8 qX9 qX3 qX0 qa0 qa1 qa2 adX6 adX7 adX5 adX2 adX4 adX1 adX8 adX9 adX3 adX0) σ0C 34) := rfl
theorem lf_35 {kc : Nat → ClassId} {h0 qX6 qX7 qX5 qX2 qX4 qX1 qX8 qX9 qX3 qX0 qa0 qa1 qa2 : Nat} {adX6 adX7 adX5 adX2 adX4 adX1 adX8 adX9 adX3 adX0 : Nat → Nat} : (LF kc h0 qX6 qX7 qX5 qX2 qX4 qX1 qX8 qX9 qX3 qX0 qa0 qa1 qa2 adX6 adX7 adX5 adX2 adX4 adX1 adX8 adX9 adX3 adX0)[26]? = some (adC h0 qX6 qX7 qX5 qX2 qX4 qX1 qX8 qX9 qX3 qX0 qa0 qa1 qa2 adX6 adX7 adX5 adX2 adX4 adX1 adX8 adX9 adX3 adX0 35, ent tC kc (adC h0 qX6 qX7 qX5 qX2 qX4 qX1 qX8 qX9 qX3 qX0 qa0 qa1 qa2 adX6 adX7 adX5 adX2 adX4 adX1 adX8 adX9 adX3 adX0) σ0C 35) := rfl
theorem lf_36 {kc : Nat → ClassId} {h0 qX6 qX7 qX5 qX2 qX4 qX1 qX8 qX9 qX3 qX0 qa0 qa1 qa2 : Nat} {adX6 adX7 adX5 adX2 adX4 adX1 adX8 adX9 adX3 adX0 : Nat → Nat} : (LF kc h0 qX6 qX7 qX5 qX2 qX4 qX1 qX8 qX9 qX3 qX0 qa0 qa1 qa2 adX6 adX7 adX5 adX2 adX4 adX1 adX8 adX9 adX3 adX0)[27]? = some (adC h0 qX6 qX7 qX5 qX2 qX4 qX1 qX8 qX9 qX3 qX0 qa0 qa1 qa2 adX6 adX7 adX5 adX2 adX4 adX1 adX8 adX9 adX3 adX0 36, ent tC kc (adC h0 qX6 qX7 qX5 qX2 qX4 qX1 qX8 qX9 qX3 qX0 qa0 qa1 qa2 adX6 adX7 adX5 adX2 adX4 adX1 adX8 adX9 adX3 adX0) σ0C 36) := rfl
theorem lf_37 {kc : Nat → ClassId} {h0 qX6 qX7 qX5 qX2 qX4 qX1 qX8 qX9 qX3 qX0 qa0 qa1 qa2 : Nat} {adX6 adX7 adX5 adX2 adX4 adX1 adX8 adX9 adX3 adX0 : Nat → Nat} : (LF kc h0 qX6 qX7 qX5 qX2 qX4 qX1 qX8 qX9 qX3 qX0 qa0 qa1 qa2 adX6 adX7 adX5 adX2 adX4 adX1 adX8 adX9 adX3 adX0)[28]? = some (adC h0 qX6 qX7 qX5 qX2 qX4 qX1 qX8 qX9 qX3 qX0 qa0 qa1 qa2 adX6 adX7 adX5 adX2 adX4 adX1 adX8 adX9 adX3 adX0 37, ent tC kc (adC h0 qX6 qX7 qX5 qX2 qX4 qX1 qX8 qX9 qX3 qX0 qa0 qa1 qa2 adX6 adX7 adX5 adX2 adX4 adX1 adX8 adX9 adX3 adX0) σ0C 37) := rfl
theorem lf_38 {kc : Nat → ClassId} {h0 qX6 qX7 qX5 qX2 qX4 qX1 qX8 qX9 qX3 qX0 qa0 qa1 qa2 : Nat} {adX6 adX7 adX5 adX2 adX4 adX1 adX8 adX9 adX3 adX0 : Nat → Nat} : (LF kc h0 qX6 qX7 qX5 qX2 qX4 qX1 qX8 qX9 qX3 qX0 qa0 qa1 qa2 adX6 adX7 adX5 adX2 adX4 adX1 adX8 adX9 adX3 adX0)[29]? = some (adC h0 qX6 qX7 qX5 qX2 qX4 qX1 qX8 qX9 qX3 qX0 qa0 qa1 qa2 adX6 adX7 adX5 adX2 adX4 adX1 adX8 adX9 adX3 adX0 38, ent tC kc (adC h0 qX6 qX7 qX5 qX2 qX4 qX1 qX8 qX9 qX3 qX0 qa0 qa1 qa2 adX6 adX7 adX5 adX2 adX4 adX1 adX8 adX9 adX3 adX0) σ0C 38) := rfl
theorem lf_39 {kc : Nat → ClassId} {h0 qX6 qX7 qX5 qX2 qX4 qX1 qX8 qX9 qX3 qX0 qa0 qa1 qa2 : Nat} {adX6 adX7 adX5 adX2 adX4 adX1 adX8 adX9 adX3 adX0 : Nat → Nat} : (LF kc h0 qX6 qX7 qX5 qX2 qX4 qX1 qX8 qX9 qX3 qX0 qa0 qa1 qa2 adX6 adX7 adX5 adX2 adX4 adX1 adX8 adX9 adX3 adX0)[30]? = some (adC h0 qX6 qX7 qX5 qX2 qX4 qX1 qX8 qX9 qX3 qX0 qa0 qa1 qa2 adX6 adX7 adX5 adX2 adX4 adX1 adX8 adX9 adX3 adX0 39, ent tC kc (adC h0 qX6 qX7 qX5 qX2 qX4 qX1 qX8 qX9 qX3 qX0 qa0 qa1 qa2 adX6 adX7 adX5 adX2 adX4 adX1 adX8 adX9 adX3 adX0) σ0C 39) := rfl
theorem lf_40 {kc : Nat → ClassId} {h0 qX6 qX7 qX5 qX2 qX4 qX1 qX8 qX9 qX3 qX0 qa0 qa1 qa2 : Nat} {adX6 adX7 adX5 adX2 adX4 adX1 adX8 adX9 adX3 adX0 : Nat → Nat} : (LF kc h0 qX6 qX7 qX5 qX2 qX4 qX1 qX8 qX9 qX3 qX0 qa0 qa1 qa2 adX6 adX7 adX5 adX2 adX4 adX1 adX8 adX9 adX3 adX0)[31]? = some (adC h0 qX6 qX7 qX5 qX2 qX4 qX1 qX8 qX9 qX3 qX0 qa0 qa1 qa2 adX6 adX7 adX5 adX2 adX4 adX1 adX8 adX9 adX3 adX0 40, ent tC kc (adC h0 qX6 qX7 qX5 qX2 qX4 qX1 qX8 qX9 qX3 qX0 qa0 qa1 qa2 adX6 adX7 adX5 adX2 adX4 adX1 adX8 adX9 adX3 adX0) σ0C 40) := rfl
theorem lf_41 {kc : Nat → ClassId} {h0 qX6 qX7 qX5 qX2 qX4 qX1 qX8 qX9 qX3 qX0 qa0 qa1 qa2 : Nat} {adX6 adX7 adX5 adX2 adX4 adX1 adX8 adX9 adX3 adX0 : Nat → Nat} : (LF kc h0 qX6 qX7 qX5 qX2 qX4 qX1 qX8 qX9 qX3 qX0 qa0 qa1 qa2 adX6 adX7 adX5 adX2 adX4 adX1 adX8 adX9 adX3 adX0)[32]? = some (adC h0 qX6 qX7 qX5 qX2 qX4 qX1 qX8 qX9 qX3 qX0 qa0 qa1 qa2 adX6 adX7 adX5 adX2 adX4 adX1 adX8 adX9 adX3 adX0 41, ent tC kc (adC h0 qX6 qX7 qX5 qX2 qX4 qX1 qX8 qX9 qX3 qX0 qa0 qa1 qa2 adX6 adX7 adX5 adX2 adX4 adX1 adX8 adX9 adX3 adX0) σ0C 41) := rfl
theorem lf_42 {kc : Nat → ClassId} {h0 qX6 qX7 qX5 qX2 qX4 qX1 qX8 qX9 qX3 qX0 qa0 qa1 qa2 : Nat} {adX6 adX7 adX5 adX2 adX4 adX1 adX8 adX9 adX3 adX0 : Nat → Nat} : (LF kc h0 qX6 qX7 qX5 qX2 qX4 qX1 qX8 qX9 qX3 qX0 qa0 qa1 qa2 adX6 adX7 adX5 adX2 adX4 adX1 adX8 adX9 adX3 adX0)[33]? = some (adC h0 qX6 qX7 qX5 qX2 qX4 qX1 qX8 qX9 qX3 qX0 qa0 qa1 qa2 adX6 adX7 adX5 adX2 adX4 adX1 adX8 adX9 adX3 adX0 42, ent tC kc (adC h0 qX6 qX7 qX5 qX2 qX4 qX1 qX8 qX9 qX3 qX0 qa0 qa1 qa2 adX6 adX7 adX5 adX2 adX4 adX1 adX8 adX9 adX3 adX0) σ0C 42) := rfl
theorem lf_43 {kc : Nat → ClassId} {h0 qX6 qX7 qX5 qX2 qX4 qX1 qX8 qX9 qX3 qX0 qa0 qa1 qa2 : Nat} {adX6 adX7 adX5 adX2 adX4 adX1 adX8 adX9 adX3 adX0 : Nat → Nat} : (LF kc h0 qX6 qX7 qX5 qX2 qX4 qX1 qX8 qX9 qX3 qX0 qa0 qa1 qa2 adX6 adX7 adX5 adX2 adX4 adX1 adX8 adX9 adX3 adX0)[34]? = some (adC h0 qX6 qX7 qX5 qX2 qX4 qX1 qX8 qX9 qX3 qX0 qa0 qa1 qa2 adX6 adX7 adX5 adX2 adX4 adX1 adX8 adX9 adX3 adX0 43, ent tC kc (adC h0 qX6 qX7 qX5 qX2 qX4 qX1 qX8 qX9 qX3 qX0 qa0 qa1 qa2 adX6 adX7 adX5 adX2 adX4 adX1 adX8 adX9 adX3 adX0) σ0C 43) := rfl
theorem lf_44 {kc : Nat → ClassId} {h0 qX6 qX7 qX5 qX2 qX4 qX1 qX8 qX9 qX3 qX0 qa0 qa1 qa2 : Nat} {adX6 adX7 adX5 adX2 adX4 adX1 adX8 adX9 adX3 adX0 : Nat → Nat} : (LF kc h0 qX6 qX7 qX5 qX2 qX4 qX1 qX8 qX9 qX3 qX0 qa0 qa1 qa2 adX6 adX7 adX5 adX2 adX4 adX1 adX8 adX9 adX3 adX0)[35]? = some (adC h0 qX6 qX7 qX5 qX2 qX4 qX1 qX8 qX9 qX3 qX0 qa0 qa1 qa2 adX6 adX7 adX5 adX2 adX4 adX1 adX8 adX9 adX3 adX0 44, ent tC kc (adC h0 qX6 qX7 qX5 qX2 qX4 qX1 qX8 qX9 qX3 qX0 qa0 qa1 qa2 adX6 adX7 adX5 adX2 adX4 adX1 adX8 adX9 adX3 adX0) σ0C 44) := rfl
theorem lf_45 {kc : Nat → ClassId} {h0 qX6 qX7 qX5 qX2 qX4 qX1 qX8 qX9 qX3 qX0 qa0 qa1 qa2 : Nat} {adX6 adX7 adX5 adX2 adX4 adX1 adX8 adX9 adX3 adX0 : Nat → Nat} : (LF kc h0 qX6 qX7 qX5 qX2 qX4 qX1 qX8 qX9 qX3 qX0 qa0 qa1 qa2 adX6 adX7 adX5 adX2 adX4 adX1 adX8 adX9 adX3 adX0)[37]? = some (adC h0 qX6 qX7 qX5 qX2 qX4 qX1 qX8 qX9 qX3 qX0 qa0 qa1 qa2 adX6 adX7 adX5 adX2 adX4 adX1 adX8 adX9 adX3 adX0 45, ent tC kc (adC h0 qX6 qX7 qX5 qX2 qX4 qX1 qX8 qX9 qX3 qX0 qa0 qa1 qa2 adX6 adX7 adX5 adX2 adX4 adX1 adX8 adX9 adX3 adX0) σ0C 45) := rfl
theorem lf_46 {kc : Nat → ClassId} {h0 qX6 qX7 qX5 qX2 qX4 qX1 qX8 qX9 qX3 qX0 qa0 qa1 qa2 : Nat} {adX6 adX7 adX5 adX2 adX4 adX1 adX8 adX9 adX3 adX0 : Nat → Nat} : (LF kc h0 qX6 qX7 qX5 qX2 qX4 qX1 qX8 qX9 qX3 qX0 qa0 qa1 qa2 adX6 adX7 adX5 adX2 adX4 adX1 adX8 adX9 adX3 adX0)[42]? = some (adC h0 qX6 qX7 qX5 qX2 qX4 qX1 qX8 qX9 qX3 qX0 qa0 qa1 qa2 adX6 adX7 adX5 adX2 adX4 adX1 adX8 adX9 adX3 adX0 46, ent tC kc (adC h0 qX6 qX7 qX5 qX2 qX4 qX1 qX8 qX9 qX3 qX0 qa0 qa1 qa2 adX6 adX7 adX5 adX2 adX4 adX1 adX8 adX9 adX3 adX0) σ0C 46) := rfl
theorem lf_47 {kc : Nat → ClassId} {h0 qX6 qX7 qX5 qX2 qX4 qX1 qX8 qX9 qX3 qX0 qa0 qa1 qa2 : Nat} {adX6 adX7 adX5 adX2 adX4 adX1 adX8 adX9 adX3 adX0 : Nat → Nat} : (LF kc h0 qX6 qX7 qX5 qX2 qX4 qX1 qX8 qX9 qX3 qX0 qa0 qa1 qa2 adX6 adX7 adX5 adX2 adX4 adX1 adX8 adX9 adX3 adX0)[43]? = some (adC h0 qX6 qX7 qX5 qX2 qX4 qX1 qX8 qX9 qX3 qX0 qa0 qa1 qa2 adX6 adX7 adX5 adX2 adX4 adX1 adX8 adX9 adX3 adX0 47, ent tC kc (adC h0 qX6 qX7 qX5 qX2 qX4 qX1 qX8 qX9 qX3 qX0 qa0 qa1 qa2 adX6 adX7 adX5 adX2 adX4 adX1 adX8 adX9 adX3 adX0) σ0C 47) := rfl
theorem lf_48 {kc : Nat → ClassId} {h0 qX6 qX7 qX5 qX2 qX4 qX1 qX8 qX9 qX3 qX0 qa0 qa1 qa2 : Nat} {adX6 adX7 adX5 adX2 adX4 adX1 adX8 adX9 adX3 adX0 : Nat → Nat} : (LF kc h0 qX6 qX7 qX5 qX2 qX4 qX1 qX8 qX9 qX3 qX0 qa0 qa1 qa2 adX6 adX7 adX5 adX2 adX4 adX1 adX8 adX9 adX3 adX0)[44]? = some (adC h0 qX6 qX7 qX5 qX2 qX4 qX1 qX8 qX9 qX3 qX0 qa0 qa1 qa2 adX6 adX7 adX5 adX2 adX4 adX1 adX8 adX9 adX3 adX0 48, ent tC kc (adC h0 qX6 qX7 qX5 qX2 qX4 qX1 qX8 qX9 qX3 qX0 qa0 qa1 qa2 adX6 adX7 adX5 adX2 adX4 adX1 adX8 adX9 adX3 adX0) σ0C 48) := rfl
theorem lf_49 {kc : Nat → ClassId} {h0 qX6 qX7 qX5 qX2 qX4 qX1 qX8 qX9 qX3 qX0 qa0 qa1 qa2 : Nat} {adX6 adX7 adX5 adX2 adX4 adX1 adX8 adX9 adX3 adX0 : Nat → Nat} : (LF kc h0 qX6 qX7 qX5 qX2 qX4 qX1 qX8 qX9 qX3 qX0 qa0 qa1 qa2 adX6 adX7 adX5 adX2 adX4 adX1 adX8 adX9 adX3 adX0)[45]? = some (adC h0 qX6 qX7 qX5 qX2 qX4 qX1 qX8 qX9 qX3 qX0 qa0 qa1 qa2 adX6 adX7 adX5 adX2 adX4 adX1 adX8 adX9 adX3 adX0 49, ent tC kc (adC h0 qX6 qX7 qX5 qX2 qX4 qX1 qX8 qX9 qX3 qX0 qa0 qa1 qa2 adX6 adX7 adX5 adX2 adX4 adX1 adX8 adX9 adX3 adX0) σ0C 49) := rfl
theorem lf_50 {kc : Nat → ClassId} {h0 qX6 qX7 qX5 qX2 qX4 qX1 qX8 qX9 qX3 qX0 qa0 qa1 qa2 : Nat} {adX6 adX7 adX5 adX2 adX4 adX1 adX8 adX9 adX3 adX0 : Nat → Nat} : (LF kc h0 qX6 qX7 qX5 qX2 qX4 qX1 qX8 qX9 qX3 qX0 qa0 qa1 qa2 adX6 adX7 adX5 adX2 adX4 adX1 adX8 adX9 adX3 adX0)[47]? = some (adC h0 qX6 qX7 qX5 qX2 qX4 qX1 qX8 qX9 qX3 qX0 qa0 qa1 qa2 adX6 adX7 adX5 adX2 adX4 adX1 adX8 adX9 adX3 adX0 50, ent tC kc (adC h0 qX6 qX7 qX5 qX2 qX4 qX1 qX8 qX9 qX3 qX0 qa0 qa1 qa2 adX6 adX7 adX5 adX2 adX4 adX1 adX8 adX9 adX3 adX0) σ0C 50) := rfl
theorem lf_51 {kc : Nat → ClassId} {h0 qX6 qX7 qX5 qX2 qX4 qX1 qX8 qX9 qX3 qX0 qa0 qa1 qa2 : Nat} {adX6 adX7 adX5 adX2 adX4 adX1 adX8 adX9 adX3 adX0 : Nat → Nat} : (LF kc h0 qX6 qX7 qX5 qX2 qX4 qX1 qX8 qX9 qX3 qX0 qa0 qa1 qa2 adX6 adX7 adX5 adX2 adX4 adX1 adX8 adX9 adX3 adX0)[48]? = some (adC h0 qX6 qX7 qX5 qX2 qX4 qX1 qX8 qX9 qX3 qX0 qa0 qa1 qa2 adX6 adX7 adX5 adX2 adX4 adX1 adX8 adX9 adX3 adX0 51, ent tC kc (adC h0 qX6 qX7 qX5 qX2 qX4 qX1 qX8 qX9 qX3 qX0 qa0 qa1 qa2 adX6 adX7 adX5 adX2 adX4 adX1 adX8 adX9 adX3 adX0) σ0C 51) := rfl
theorem lf_52 {kc : Nat → ClassId} {h0 qX6 qX7 qX5 qX2 qX4 qX1 qX8 qX9 qX3 qX0 qa0 qa1 qa2 : Nat} {adX6 adX7 adX5 adX2 adX4 adX1 adX8 adX9 adX3 adX0 : Nat → Nat} : (LF kc h0 qX6 qX7 qX5 qX2 qX4 qX1 qX8 qX9 qX3 qX0 qa0 qa1 qa2 adX6 adX7 adX5 adX2 adX4 adX1 adX8 adX9 adX3 adX0)[49]? = some (adC h0 qX6 qX7 qX5 qX2 qX4 qX1 qX8 qX9 qX3 qX0 qa0 qa1 qa2 adX6 adX7 adX5 adX2 adX4 adX1 adX8 adX9 adX3 adX0 52, ent tC kc (adC h0 qX6 qX7 qX5 qX2 qX4 qX1 qX8 qX9 qX3 qX0 qa0 qa1 qa2 adX6 adX7 adX5 adX2 adX4 adX1 adX8 adX9 adX3 adX0) σ0C 52) := rfl
theorem lf_53 {kc : Nat → ClassId} {h0 qX6 qX7 qX5 qX2 qX4 qX1 qX8 qX9 qX3 qX0 qa0 qa1 qa2 : Nat} {adX6 adX7 adX5 adX2 adX4 adX1 adX8 adX9 adX3 adX0 : Nat → Nat} : (LF kc h0 qX6 qX7 qX5 qX2 qX4 qX1 qX8 qX9 qX3 qX0 qa0 qa1 qa2 adX6 adX7 adX5 adX2 adX4 adX1 adX8 adX9 adX3 adX0)[50]? = some (adC h0 qX6 qX7 qX5 qX2 qX4 qX1 qX8 qX9 qX3 qX0 qa0 qa1 qa2 adX6 adX7 adX5 adX2 adX4 adX1 adX8 adX9 adX3 adX0 53, ent tC kc (adC h0 qX6 qX7 qX5 qX2 qX4 qX1 qX8 qX9 qX3 qX0 qa0 qa1 qa2 adX6 adX7 adX5 adX2 adX4 adX1 adX8 adX9 adX3 adX0) σ0C 53) := rfl
theorem lf_54 {kc : Nat → ClassId} {h0 qX6 qX7 qX5 qX2 qX4 qX1 qX8 qX9 qX3 qX0 qa0 qa1 qa2 : Nat} {adX6 adX7 adX5 adX2 adX4 adX1 adX8 adX9 adX3 adX0 : Nat → Nat} : (LF kc h0 qX6 qX7 qX5 qX2 qX4 qX1 qX8 qX9 qX3 qX0 qa0 qa1 qa2 adX6 adX7 adX5 adX2 adX4 adX1 adX8 adX9 adX3 adX0)[51]? = some (adC h0 qX6 qX7 qX5 qX2 qX4 qX1 qX8 qX9 qX3 qX0 qa0 qa1 qa2 adX6 adX7 adX5 adX2 adX4 adX1 adX8 adX9 adX3 adX0 54, ent tC kc (adC h0 qX6 qX7 qX5 qX2 qX4 qX1 qX8 qX9 qX3 qX0 qa0 qa1 qa2 adX6 adX7 adX5 adX2 adX4 adX1 adX8 adX9 adX3 adX0) σ0C 54) := rfl
theorem lf_55 {kc : Nat → ClassId} {h0 qX6 qX7 qX5 qX2 qX4 qX1 qX8 qX9 qX3 qX0 qa0 qa1 qa2 : Nat} {adX6 adX7 adX5 adX2 adX4 adX1 adX8 adX9 adX3 adX0 : Nat → Nat} : (LF kc h0 qX6 qX7 qX5 qX2 qX4 qX1 qX8 qX9 qX3 qX0 qa0 qa1 qa2 adX6 adX7 adX5 adX2 adX4 adX1 adX8 adX9 adX3 adX0)[52]? = some (adC h0 qX6 qX7 qX5 qX2 qX4 qX1 qX8 qX9 qX3 qX0 qa0 qa1 qa2 adX6 adX7 adX5 adX2 adX4 adX1 adX8 adX9 adX3 adX0 55, ent tC kc (adC h0 qX6 qX7 qX5 qX2 qX4 qX1 qX8 qX9 qX3 qX0 qa0 qa1 qa2 adX6 adX7 adX5 adX2 adX4 adX1 adX8 adX9 adX3 adX0) σ0C 55) := rfl
theorem lf_56 {kc : Nat → ClassId} {h0 qX6 qX7 qX5 qX2 qX4 qX1 qX8 qX9 qX3 qX0 qa0 qa1 qa2 : Nat} {adX6 adX7 adX5 adX2 adX4 adX1 adX8 adX9 adX3 adX0 : Nat → Nat} : (LF kc h0 qX6 qX7 qX5 qX2 qX4 qX1 qX8 qX9 qX3 qX0 qa0 qa1 qa2 adX6 adX7 adX5 adX2 adX4 adX1 adX8 adX9 adX3 adX0)[53]? = some (adC h0 qX6 qX7 qX5 qX2 qX4 qX1 qX8 qX9 qX3 qX0 qa0 qa1 qa2 adX6 adX7 adX5 adX2 adX4 adX1 adX8 adX9 adX3 adX0 56, ent tC kc (adC h0 qX6 qX7 qX5 qX2 qX4 qX1 qX8 qX9 qX3 qX0 qa0 qa1 qa2 adX6 adX7 adX5 adX2 adX4 adX1 adX8 adX9 adX3 adX0) σ0C 56) := rfl
theorem lf_57 {kc : Nat → ClassId} {h0 qX6 qX7 qX5 qX2 qX4 qX1 qX8 qX9 qX3 qX0 qa0 qa1 qa2 : Nat} {adX6 adX7 adX5 adX2 adX4 adX1 adX8 adX9 adX3 adX0 : Nat → Nat} : (LF kc h0 qX6 qX7 qX5 qX2 qX4 qX1 qX8 qX9 qX3 qX0 qa0 qa1 qa2 adX6 adX7 adX5 adX2 adX4 adX1 adX8 adX9 adX3 adX0)[54]? = some (adC h0 qX6 qX7 qX5 qX2 qX4 qX1 qX8 qX9 qX3 qX0 qa0 qa1 qa2 adX6 adX7 adX5 adX2 adX4 adX1 adX8 adX9 adX3 adX0 57, ent tC kc (adC h0 qX6 qX7 qX5 qX2 qX4 qX1 qX8 qX9 qX3 qX0 qa0 qa1 qa2 adX6 adX7 adX5 adX2 adX4 adX1 adX8 adX9 adX3 adX0) σ0C 57) := rfl
theorem lf_58 {kc : Nat → ClassId} {h0 qX6 qX7 qX5 qX2 qX4 qX1 qX8 qX9 qX3 qX0 qa0 qa1 qa2 : Nat} {adX6 adX7 adX5 adX2 adX4 adX1 adX8 adX9 adX3 adX0 : Nat → Nat} : (LF kc h0 qX6 qX7 qX5 qX2 qX4 qX1 qX8 qX9 qX3 qX0 qa0 qa1 qa2 adX6 adX7 adX5 adX2 adX4 adX1 adX8 adX9 adX3 adX0)[56]? = some (adC h0 qX6 qX7 qX5 qX2 qX4 qX1 qX8 qX9 qX3 qX0 qa0 qa1 qa2 adX6 adX7 adX5 adX2 adX4 adX1 adX8 adX9 adX3 adX0 58, ent tC kc (adC h0 qX6 qX7 qX5 qX2 qX4 qX1 qX8 qX9 qX3 qX0 qa0 qa1 qa2 adX6 adX7 adX5 adX2 adX4 adX1 adX8 adX9 adX3 adX0) σ0C 58) := rfl
theorem lf_59 {kc : Nat → ClassId} {h0 qX6 qX7 qX5 qX2 qX4 qX1 qX8 qX9 qX3 qX0 qa0 qa1 qa2 : Nat} {adX6 adX7 adX5 adX2 adX4 adX1 adX8 adX9 adX3 adX0 : Nat → Nat} : (LF kc h0 qX6 qX7 qX5 qX2 qX4 qX1 qX8 qX9 qX3 qX0 qa0 qa1 qa2 adX6 adX7 adX5 adX2 adX4 adX1 adX8 adX9 adX3 adX0)[57]? = some (adC h0 qX6 qX7 qX5 qX2 qX4 qX1 qX8 qX9 qX3 qX0 qa0 qa1 qa2 adX6 adX7 adX5 adX2 adX4 adX1 adX8 adX9 adX3 adX0 59, ent tC kc (adC h0 qX6 qX7 qX5 qX2 qX4 qX1 qX8 qX9 qX3 qX0 qa0 qa1 qa2 adX6 adX7 adX5 adX2 adX4 adX1 adX8 adX9 adX3 adX0) σ0C 59) := rfl
theorem lf_60 {kc : Nat → ClassId} {h0 qX6 qX7 qX5 qX2 qX4 qX1 qX8 qX9 qX3 qX0 qa0 qa1 qa2 : Nat} {adX6 adX7 adX5 adX2 adX4 adX1 adX8 adX9 adX3 adX0 : Nat → Nat} : (LF kc h0 qX6 qX7 qX5 qX2 qX4 qX1 qX8 qX9 qX3 qX0 qa0 qa1 qa2 adX6 adX7 adX5 adX2 adX4 adX1 adX8 adX9 adX3 adX0)[58]? = some (adC h0 qX6 qX7 qX5 qX2 qX4 qX1 qX8 qX9 qX3 qX0 qa0 qa1 qa2 adX6 adX7 adX5 adX2 adX4 adX1 adX8 adX9 adX3 adX0 60, ent tC kc (adC h0 qX6 qX7 qX5 qX2 qX4 qX1 qX8 qX9 qX3 qX0 qa0 qa1 qa2 adX6 adX7 adX5 adX2 adX4 adX1 adX8 adX9 adX3 adX0) σ0C 60) := rfl
theorem lf_61 {kc : Nat → ClassId} {h0 qX6 qX7 qX5 qX2 qX4 qX1 qX8 qX9 qX3 qX0 qa0 qa1 qa2 : Nat} {adX6 adX7 adX5 adX2 adX4 adX1 adX8 adX9 adX3 adX0 : Nat → Nat} : (LF kc h0 qX6 qX7 qX5 qX2 qX4 qX1 qX8 qX9 qX3 qX0 qa0 qa1 qa2 adX6 adX7 adX5 adX2 adX4 adX1 adX8 adX9 adX3 adX0)[59]? = some (adC h0 qX6 qX7 qX5 qX2 qX4 qX1 qX8 qX9 qX3 qX0 qa0 qa1 qa2 adX6 adX7 adX5 adX2 adX4 adX1 adX8 adX9 adX3 adX0 61, ent tC kc (adC h0 qX6 qX7 qX5 qX2 qX4 qX1 qX8 qX9 qX3 qX0 qa0 qa1 qa2 adX6 adX7 adX5 adX2 adX4 adX1 adX8 adX9 adX3 adX0) σ0C 61) := rfl
theorem lf_62 {kc : Nat → ClassId} {h0 qX6 qX7 qX5 qX2 qX4 qX1 qX8 qX9 qX3 qX0 qa0 qa1 qa2 : Nat} {adX6 adX7 adX5 adX2 adX4 adX1 adX8 adX9 adX3 adX0 : Nat → Nat} : (LF kc h0 qX6 qX7 qX5 qX2 qX4 qX1 qX8 qX9 qX3 qX0 qa0 qa1 qa2 adX6 adX7 adX5 adX2 adX4 adX1 adX8 adX9 adX3 adX0)[60]? = some (adC h0 qX6 qX7 qX5 qX2 qX4 qX1 qX8 qX9 qX3 qX0 qa0 qa1 qa2 adX6 adX7 adX5 adX2 adX4 adX1 adX8 adX9 adX3 adX0 62, ent tC kc (adC h0 qX6 qX7 qX5 qX2 qX4 qX1 qX8 qX9 qX3 qX0 qa0 qa1 qa2 adX6 adX7 adX5 adX2 adX4 adX1 adX8 adX9 adX3 adX0) σ0C 62) := rfl
theorem lf_63 {kc : Nat → ClassId} {h0 qX6 qX7 qX5 qX2 qX4 qX1 qX8 qX9 qX3 qX0 qa0 qa1 qa2 : Nat} {adX6 adX7 adX5 adX2 adX4 adX1 adX8 adX9 adX3 adX0 : Nat → Nat} : (LF kc h0 qX6 qX7 qX5 qX2 qX4 qX1 qX8 qX9 qX3 qX0 qa0 qa1 qa2 adX6 adX7 adX5 adX2 adX4 adX1 adX8 adX9 adX3 adX0)[62]? = some (adC h0 qX6 qX7 qX5 qX2 qX4 qX1 qX8 qX9 qX3 qX0 qa0 qa1 qa2 adX6 adX7 adX5 adX2 adX4 adX1 adX8 adX9 adX3 adX0 63, ent tC kc (adC h0 qX6 qX7 qX5 qX2 qX4 qX1 qX8 qX9 qX3 qX0 qa0 qa1 qa2 adX6 adX7 adX5 adX2 adX4 adX1 adX8 adX9 adX3 adX0) σ0C 63) := rfl
theorem lf_64 {kc : Nat → ClassId} {h0 qX6 qX7 qX5 qX2 qX4 qX1 qX8 qX9 qX3 qX0 qa0 qa1 qa2 : Nat} {adX6 adX7 adX5 adX2 adX4 adX1 adX8 adX9 adX3 adX0 : Nat → Nat} : (LF kc h0 qX6 qX7 qX5 qX2 qX4 qX1 qX8 qX9 qX3 qX0 qa0 qa1 qa2 adX6 adX7 adX5 adX2 adX4 adX1 adX8 adX9 adX3 adX0)[63]? = some (adC h0 qX6 qX7 qX5 qX2 qX4 qX1 qX8 qX9 qX3 qX0 qa0 qa1 qa2 adX6 adX7 adX5 adX2 adX4 adX1 adX8 adX9 adX3 adX0 64, ent tC kc (adC h0 qX6 qX7 qX5 qX2 qX4 qX1 qX8 qX9 qX3 qX0 qa0 qa1 qa2 adX6 adX7 adX5 adX2 adX4 adX1 adX8 adX9 adX3 adX0) σ0C 64) := rfl
theorem lf_65 {kc : Nat → ClassId} {h0 qX6 qX7 qX5 qX2 qX4 qX1 qX8 qX9 qX3 qX0 qa0 qa1 qa2 : Nat} {adX6 adX7 adX5 adX2 adX4 adX1 adX8 adX9 adX3 adX0 : Nat → Nat} : (LF kc h0 qX6 qX7 qX5 qX2 qX4 qX1 qX8 qX9 qX3 qX0 qa0 qa1 qa2 adX6 adX7 adX5 adX2 adX4 adX1 adX8 adX9 adX3 adX0)[65]? = some (adC h0 qX6 qX7 qX5 qX2 qX4 qX1 qX8 qX9 qX3 qX0 qa0 qa1 qa2 adX6 adX7 adX5 adX2 adX4 adX1 adX8 adX9 adX3 adX0 65, ent tC kc (adC h0 qX6 qX7 qX5 qX2 qX4 qX1 qX8 qX9 qX3 qX0 qa0 qa1 qa2 adX6 adX7 adX5 adX2 adX4 adX1 adX8 adX9 adX3 adX0) σ0C 65) := rfl
theorem lf_66 {kc : Nat → ClassId} {h0 qX6 qX7 qX5 qX2 qX4 qX1 qX8 qX9 qX3 qX0 qa0 qa1 qa2 : Nat} {adX6 adX7 adX5 adX2 adX4 adX1 adX8 adX9 adX3 adX0 : Nat → Nat} : (LF kc h0 qX6 qX7 qX5 qX2 qX4 qX1 qX8 qX9 qX3 qX0 qa0 qa1 qa2 adX6 adX7 adX5 adX2 adX4 adX1 adX8 adX9 adX3 adX0)[66]? = some (adC h0 qX6 qX7 qX5 qX2 qX4 qX1 qX8 qX9 qX3 qX0 qa0 qa1 qa2 adX6 adX7 adX5 adX2 adX4 adX1 adX8 adX9 adX3 adX0 66, ent tC kc (adC h0 qX6 qX7 qX5 qX2 qX4 qX1 qX8 qX9 qX3 qX0 qa0 qa1 qa2 adX6 adX7 adX5 adX2 adX4 adX1 adX8 adX9 adX3 adX0) σ0C 66) := rfl
theorem lf_67 {kc : Nat → ClassId} {h0 qX6 qX7 qX5 qX2 qX4 qX1 qX8 qX9 qX3 qX0 qa0 qa1 qa2 : Nat} {adX6 adX7 adX5 adX2 adX4 adX1 adX8 adX9 adX3 adX0 : Nat → Nat} : (LF kc h0 qX6 qX7 qX5 qX2 qX4 qX1 qX8 qX9 qX3 qX0 qa0 qa1 qa2 adX6 adX7 adX5 adX2 adX4 adX1 adX8 adX9 adX3 adX0)[67]? = some (adC h0 qX6 qX7 qX5 qX2 qX4 qX1 qX8 qX9 qX3 qX0 qa0 qa1 qa2 adX6 adX7 adX5 adX2 adX4 adX1 adX8 adX9 adX3 adX0 67, ent tC kc (adC h0 qX6 qX7 qX5 qX2 qX4 qX1 qX8 qX9 qX3 qX0 qa0 qa1 qa2 adX6 adX7 adX5 adX2 adX4 adX1 adX8 adX9 adX3 adX0) σ0C 67) := rfl
theorem lf_68 {kc : Nat → ClassId} {h0 qX6 qX7 qX5 qX2 qX4 qX1 qX8 qX9 qX3 qX0 qa0 qa1 qa2 : Nat} {adX6 adX7 adX5 adX2 adX4 adX1 adX8 adX9 adX3 adX0 : Nat → Nat} : (LF kc h0 qX6 qX7 qX5 qX2 qX4 qX1 qX8 qX9 qX3 qX0 qa0 qa1 qa2 adX6 adX7 adX5 adX2 adX4 adX1 adX8 adX9 adX3 adX0)[68]? = some (adC h0 qX6 qX7 qX5 qX2 qX4 qX1 qX8 qX9 qX3 qX0 qa0 qa1 qa2 adX6 adX7 adX5 adX2 adX4 adX1 adX8 adX9 adX3 adX0 68, ent tC kc (adC h0 qX6 qX7 qX5 qX2 qX4 qX1 qX8 qX9 qX3 qX0 qa0 qa1 qa2 adX6 adX7 adX5 adX2 adX4 adX1 adX8 adX9 adX3 adX0) σ0C 68) := rfl
theorem lf_69 {kc : Nat → ClassId} {h0 qX6 qX7 qX5 qX2 qX4 qX1 qX8 qX9 qX3 qX0 qa0 qa1 qa2 : Nat} {adX6 adX7 adX5 adX2 adX4 adX1 adX8 adX9 adX3 adX0 : Nat → Nat} : (LF kc h0 qX6 qX7 qX5 qX2 qX4 qX1 qX8 qX9 qX3 qX0 qa0 qa1 qa2 adX6 adX7 adX5 adX2 adX4 adX1 adX8 adX9 adX3 adX0)[69]? = some (adC h0 qX6 qX7 qX5 qX2 qX4 qX1 qX8 qX9 qX3 qX0 qa0 qa1 qa2 adX6 adX7 adX5 adX2 adX4 adX1 adX8 adX9 adX3 adX0 69, ent tC kc (adC h0 qX6 qX7 qX5 qX2 qX4 qX1 qX8 qX9 qX3 qX0 qa0 qa1 qa2 adX6 adX7 adX5 adX2 adX4 adX1 adX8 adX9 adX3 adX0) σ0C 69) := rfl
theorem lf_70 {kc : Nat → ClassId} {h0 qX6 qX7 qX5 qX2 qX4 qX1 qX8 qX9 qX3 qX0 qa0 qa1 qa2 : Nat} {adX6 adX7 adX5 adX2 adX4 adX1 adX8 adX9 adX3 adX0 : Nat → Nat} : (LF kc h0 qX6 qX7 qX5 qX2 qX4 qX1 qX8 qX9 qX3 qX0 qa0 qa1 qa2 adX6 adX7 adX5 adX2 adX4 adX1 adX8 adX9 adX3 adX0)[70]? = some (adC h0 qX6 qX7 qX5 qX2 qX4 qX1 qX8 qX9 qX3 qX0 qa0 qa1 qa2 adX6 adX7 adX5 adX2 adX4 adX1 adX8 adX9 adX3 adX0 70, ent tC kc (adC h0 qX6 qX7 qX5 qX2 qX4 qX1 qX8 qX9 qX3 qX0 qa0 qa1 qa2 adX6 adX7 adX5 adX2 adX4 adX1 adX8 adX9 adX3 adX0) σ0C 70) := rfl
set_option maxRecDepth 100000 in
theorem LN_at {kc : Nat → ClassId} {h0 qX6 qX7 qX5 qX2 qX4 qX1 qX8 qX9 qX3 qX0 qa0 qa1 qa2 : Nat} {adX6 adX7 adX5 adX2 adX4 adX1 adX8 adX9 adX3 adX0 : Nat → Nat} {j : Nat} (hj : j < 71) : (LN kc h0 qX6 qX7 qX5 qX2 qX4 qX1 qX8 qX9 qX3 qX0 qa0 qa1 qa2 adX6 adX7 adX5 adX2 adX4 adX1 adX8 adX9 adX3 adX0)[piL.getD j 0]? = some (adC h0 qX6 qX7 qX5 qX2 qX4 qX1 qX8 qX9 qX3 qX0 qa0 qa1 qa2 adX6 adX7 adX5 adX2 adX4 adX1 adX8 adX9 adX3 adX0 j, ent tC kc (adC h0 qX6 qX7 qX5 qX2 qX4 qX1 qX8 qX9 qX3 qX0 qa0 qa1 qa2 adX6 adX7 adX5 adX2 adX4 adX1 adX8 adX9 adX3 adX0) σ0C j) := by
  rw [LN_eq]
  match j, hj with
  | 0, _ => exact lf_0
  | 1, _ => exact lf_1
  | 2, _ => exact lf_2
  | 3, _ => exact lf_3
  | 4, _ => exact lf_4
  | 5, _ => exact lf_5
  | 6, _ => exact lf_6
  | 7, _ => exact lf_7
  | 8, _ => exact lf_8
  | 9, _ => exact lf_9
  | 10, _ => exact lf_10
  | 11, _ => exact lf_11
  | 12, _ => exact lf_12
  | 13, _ => exact lf_13
  | 14, _ => exact lf_14
  | 15, _ => exact lf_15
  | 16, _ => exact lf_16
  | 17, _ => exact lf_17
  | 18, _ => exact lf_18
  | 19, _ => exact lf_19
  | 20, _ => exact lf_20
  | 21, _ => exact lf_21
  | 22, _ => exact lf_22
  | 23, _ => exact lf_23
  | 24, _ => exact lf_24
  | 25, _ => exact lf_25
  | 26, _ => exact lf_26
  | 27, _ => exact lf_27
  | 28, _ => exact lf_28
  | 29, _ => exact lf_29
  | 30, _ => exact lf_30
  | 31, _ => exact lf_31
  | 32, _ => exact lf_32
  | 33, _ => exact lf_33
  | 34, _ => exact lf_34
  | 35, _ => exact lf_35
  | 36, _ => exact lf_36
  | 37, _ => exact lf_37
  | 38, _ => exact lf_38
  | 39, _ => exact lf_39
  | 40, _ => exact lf_40
  | 41, _ => exact lf_41
  | 42, _ => exact lf_42
  | 43, _ => exact lf_43
  | 44, _ => exact lf_44
  | 45, _ => exact lf_45
  | 46, _ => exact lf_46
  | 47, _ => exact lf_47
  | 48, _ => exact lf_48
  | 49, _ => exact lf_49
  | 50, _ => exact lf_50
  | 51, _ => exact lf_51
  | 52, _ => exact lf_52
  | 53, _ => exact lf_53
  | 54, _ => exact lf_54
  | 55, _ => exact lf_55
  | 56, _ => exact lf_56
  | 57, _ => exact lf_57
  | 58, _ => exact lf_58
  | 59, _ => exact lf_59
  | 60, _ => exact lf_60
  | 61, _ => exact lf_61
  | 62, _ => exact lf_62
  | 63, _ => exact lf_63
  | 64, _ => exact lf_64
  | 65, _ => exact lf_65
  | 66, _ => exact lf_66
  | 67, _ => exact lf_67
  | 68, _ => exact lf_68
  | 69, _ => exact lf_69
  | 70, _ => exact lf_70
  | n + 71, h => exact absurd h (by omega)
theorem LN_P {kc : Nat → ClassId} {h0 qX6 qX7 qX5 qX2 qX4 qX1 qX8 qX9 qX3 qX0 qa0 qa1 qa2 : Nat} {adX6 adX7 adX5 adX2 adX4 adX1 adX8 adX9 adX3 adX0 : Nat → Nat} {D : va_G} {H : Heap} (h : va_P D vwCl (LN kc h0 qX6 qX7 qX5 qX2 qX4 qX1 qX8 qX9 qX3 qX0 qa0 qa1 qa2 adX6 adX7 adX5 adX2 adX4 adX1 adX8 adX9 adX3 adX0) H) : va_P D vwCl (wsW tC kc (adC h0 qX6 qX7 qX5 qX2 qX4 qX1 qX8 qX9 qX3 qX0 qa0 qa1 qa2 adX6 adX7 adX5 adX2 adX4 adX1 adX8 adX9 adX3 adX0) σ0C) H := by
  intro k x hx
  have hk : k < 71 := by
    have := (List.getElem?_eq_some_iff.mp hx).1
    rw [ws_len] at this
    exact this
  rw [ws_get hk] at hx
  cases hx
  exact h _ _ (LN_at hk)
theorem piL_inj : ∀ i, i < 71 → ∀ j, j < 71 → piL.getD i 0 = piL.getD j 0 → i = j := by decide +kernel
theorem LN_D {kc : Nat → ClassId} {h0 qX6 qX7 qX5 qX2 qX4 qX1 qX8 qX9 qX3 qX0 qa0 qa1 qa2 : Nat} {adX6 adX7 adX5 adX2 adX4 adX1 adX8 adX9 adX3 adX0 : Nat → Nat} {A : Nat → Prop} (h : va_D A (LN kc h0 qX6 qX7 qX5 qX2 qX4 qX1 qX8 qX9 qX3 qX0 qa0 qa1 qa2 adX6 adX7 adX5 adX2 adX4 adX1 adX8 adX9 adX3 adX0)) : va_D A (wsW tC kc (adC h0 qX6 qX7 qX5 qX2 qX4 qX1 qX8 qX9 qX3 qX0 qa0 qa1 qa2 adX6 adX7 adX5 adX2 adX4 adX1 adX8 adX9 adX3 adX0) σ0C) := by
  have lt : ∀ {k : Nat} {x : Nat × va_E}, (wsW tC kc (adC h0 qX6 qX7 qX5 qX2 qX4 qX1 qX8 qX9 qX3 qX0 qa0 qa1 qa2 adX6 adX7 adX5 adX2 adX4 adX1 adX8 adX9 adX3 adX0) σ0C)[k]? = some x → k < 71 := by
    intro k x hx
    have := (List.getElem?_eq_some_iff.mp hx).1
    rw [ws_len] at this
    exact this
  refine ⟨fun i j x y hi hj hxy => ?_, fun k x hx => ?_⟩
  · have li := lt hi
    have lj := lt hj
    rw [ws_get li] at hi
    rw [ws_get lj] at hj
    cases hi; cases hj
    exact piL_inj i li j lj (h.1 _ _ _ _ (LN_at li) (LN_at lj) hxy)
  · have lk := lt hx
    rw [ws_get lk] at hx
    cases hx
    exact h.2 _ _ (LN_at lk)
def nestI : List Cond := [.methodLinkNest RX10 15 yX6_init RX10, .methodLinkNest RX10 22 yX7_init RX10, .methodLinkNest RX10 29 yX5_init RX10, .methodLinkNest RX10 36 yX2_init RX10, .methodLinkNest RX10 66 yX1_init RX10, .methodLinkNest RX10 73 yX8_init RX10, .methodLinkNest RX10 80 yX9_init RX10, .methodLinkNest RX10 87 yX3_init RX10, .methodLinkNest RX10 94 yX0_init RX10]
theorem nwi_15 : Cond.methodLinkNest RX10 15 yX6_init RX10 ∈ nestI := List.mem_of_getElem? (i := 0) rfl
theorem nwi_22 : Cond.methodLinkNest RX10 22 yX7_init RX10 ∈ nestI := List.mem_of_getElem? (i := 1) rfl
theorem nwi_29 : Cond.methodLinkNest RX10 29 yX5_init RX10 ∈ nestI := List.mem_of_getElem? (i := 2) rfl
theorem nwi_36 : Cond.methodLinkNest RX10 36 yX2_init RX10 ∈ nestI := List.mem_of_getElem? (i := 3) rfl
theorem nwi_66 : Cond.methodLinkNest RX10 66 yX1_init RX10 ∈ nestI := List.mem_of_getElem? (i := 4) rfl
theorem nwi_73 : Cond.methodLinkNest RX10 73 yX8_init RX10 ∈ nestI := List.mem_of_getElem? (i := 5) rfl
theorem nwi_80 : Cond.methodLinkNest RX10 80 yX9_init RX10 ∈ nestI := List.mem_of_getElem? (i := 6) rfl
theorem nwi_87 : Cond.methodLinkNest RX10 87 yX3_init RX10 ∈ nestI := List.mem_of_getElem? (i := 7) rfl
theorem nwi_94 : Cond.methodLinkNest RX10 94 yX0_init RX10 ∈ nestI := List.mem_of_getElem? (i := 8) rfl
theorem nestI_tbl : ∀ w ∈ nestI, w ∈ lw_tbl := by
  intro w hw
  unfold nestI at hw
  simp only [List.mem_cons, List.not_mem_nil, or_false] at hw
  rcases hw with rfl | rfl | rfl | rfl | rfl | rfl | rfl | rfl | rfl
  · exact wMN_X10_15
  · exact wMN_X10_22
  · exact wMN_X10_29
  · exact wMN_X10_36
  · exact wMN_X10_66
  · exact wMN_X10_73
  · exact wMN_X10_80
  · exact wMN_X10_87
  · exact wMN_X10_94
theorem nestI_warm {s U : State} (hW : s.WarmedH U.vm) (h : ∀ w ∈ nestI, va_Nw w s) : ∀ w ∈ nestI, va_Nw w U := by
  intro w hw
  have h1 := h w hw
  unfold nestI at hw
  simp only [List.mem_cons, List.not_mem_nil, or_false] at hw
  rcases hw with rfl | rfl | rfl | rfl | rfl | rfl | rfl | rfl | rfl
  · exact va_Nw.warmM hW h1
  · exact va_Nw.warmM hW h1
  · exact va_Nw.warmM hW h1
  · exact va_Nw.warmM hW h1
  · exact va_Nw.warmM hW h1
  · exact va_Nw.warmM hW h1
  · exact va_Nw.warmM hW h1
  · exact va_Nw.warmM hW h1
  · exact va_Nw.warmM hW h1
theorem nestI_same {s U : State} (hv : s.vm = U.vm) (h : ∀ w ∈ nestI, va_Nw w s) : ∀ w ∈ nestI, va_Nw w U := by
  intro w hw
  have h1 := h w hw
  unfold nestI at hw
  simp only [List.mem_cons, List.not_mem_nil, or_false] at hw
  rcases hw with rfl | rfl | rfl | rfl | rfl | rfl | rfl | rfl | rfl
  · exact va_Nw.same rfl hv h1
  · exact va_Nw.same rfl hv h1
  · exact va_Nw.same rfl hv h1
  · exact va_Nw.same rfl hv h1
  · exact va_Nw.same rfl hv h1
  · exact va_Nw.same rfl hv h1
  · exact va_Nw.same rfl hv h1
  · exact va_Nw.same rfl hv h1
  · exact va_Nw.same rfl hv h1
def eI : ExT := fun _ U _ => ∀ w ∈ nestI, va_Nw w U
def rI_X10 : Room := { frames := 2, cells := 70, slots := 10239, locals := 60 }
/-- the class's constructor: from its object to its world -/
def KX10 (kc : Nat → ClassId) (D : va_G) (l : Launch) (h0 : Nat) : Prop := ∀ sz : Nat, Met l yX10_init (.code yX10_init cX10_init 1 none :: bw) rI_X10 (va_Pc [.ref h0] (fun U => U.heap.size = sz ∧ va_P D vwCl (NW h0 (fun k => defaultValue (tyX10 k)) []) U.heap ∧ va_K D vwCl (kts kc) U ∧ va_D (fun _ => True) (NW h0 (fun k => defaultValue (tyX10 k)) []) ∧ ∀ w ∈ nestI, va_Nw w U)) (va_Qv (S := Nat → Nat) (fun ad => ad 0 = h0) (fun ad t => va_P D vwCl (wsW tC kc ad σ0C) t.heap ∧ va_D (va_A (NW h0 (fun k => defaultValue (tyX10 k)) []) sz) (wsW tC kc ad σ0C)) (va_A (NW h0 (fun k => defaultValue (tyX10 k)) []) sz)) 70 10239 (va_A (NW h0 (fun k => defaultValue (tyX10 k)) []) sz)
set_option maxRecDepth 100000 in
set_option maxHeartbeats 4000000 in
theorem ki_X10 {l : Launch} {kc : Nat → ClassId} {D : va_G} {h0 : Nat} : KX10 kc D l h0 := by
  intro sz
  refine Met.ofW (cc := cX10_init) (maxL := 1) (ret := none) (by decide) rfl ?_
  intro p e s m args below meth c s₁ B hml hv
  obtain ⟨rfl, hsz, hP, hK, hD0, hNw⟩ := hv
  have hx := B.exec
  have hb := B.bytes
  have hr := B.returns
  have hts := atoms_spec (ws := .code yX10_init cX10_init 1 none :: bw) B.pre
  have hown : s.vm.findClass RX10 = some m.cls := findClass_of_methodNamed B.named
  have hin : meth.name = "<init>" := (name_of_methodNamed B.named B.method).1
  have hlocks := B.notSynchronized
  subst hsz
  have hl := lv_entry [.ref h0] (n := 1) (Nat.le_of_ble_eq_true rfl)
  rw [lg_entry_eq]
  generalize (lg_sl [.ref h0] ++ List.replicate (1 - (lg_sl [.ref h0]).length) Slot.unset).toArray = ls at hl ⊢
  have hl : lv_has ls 1 [(0, .ref h0)] := hl
  generalize hAe : va_A (NW h0 (fun k => defaultValue (tyX10 k)) []) s.heap.size = A
  have C : Cx eI p s m [Value.ref h0].toArray c cX10_init 1 RX10 D kc A := ⟨⟨hx, hb, hml, hown, fun w hw => hts w (List.mem_cons_of_mem _ hw)⟩, hK, fun q h => by rw [← hAe]; exact Or.inr h, hNw⟩
  have Z : NZ D A s.heap s.heap [] (NW h0 (fun k => defaultValue (tyX10 k)) []) := ⟨hP, by rw [← hAe]; exact hD0.self (sz := s.heap.size), va_S.rf⟩
  refine lv_aload_n hx hb dX10_init_0 rfl (lv_at hl 0 rfl) ?_
  refine cw_obj C wM_X10_1 hl (by decide) (rest := []) (Nat.le_of_ble_eq_true rfl) dX10_init_1 ?_
  refine lv_aload_n hx hb dX10_init_4 rfl (lv_at hl 0 rfl) ?_
  refine lv_iconst (v := 0) hx hb dX10_init_5 (by decide) ?_
  refine nw_put C Z 0 (by decide) wF_X10_7 rfl rfl rfl dX10_init_6 (fun H locs Z => ?_)
  refine lv_aload_n hx hb dX10_init_9 rfl (lv_at hl 0 rfl) ?_
  refine nw_new (ci := 6) (nf := 6) C Z rfl inX6 tyX6_ok wK_X10_13 wN_X6 wI_X6 ⟨by decide, by decide⟩ dX10_init_10 (fun qX6 H Z => ?_)
  refine lv_dup hx hb dX10_init_13 rfl ?_
  refine nw_callN C Z ki_X6 (C.2.2.2 _ nwi_15) wIM_yX6_init wI_X6 wC_yX6_init rfl ⟨by decide +kernel, by decide +kernel, by decide +kernel⟩ hl ⟨rfl, rfl, by decide, by decide, by decide, by decide⟩ (rest := [.ref qX6, .ref h0]) (Nat.le_of_ble_eq_true rfl) dX10_init_14 (fun adX6 H locs Z => ?_)
  refine nw_putF C Z hin 1 (by decide) wF_X10_16 rfl rfl rfl rfl dX10_init_17 (fun H locs Z => ?_)
  refine lv_aload_n hx hb dX10_init_20 rfl (lv_at hl 0 rfl) ?_
  refine nw_new (ci := 7) (nf := 5) C Z rfl inX7 tyX7_ok wK_X10_20 wN_X7 wI_X7 ⟨by decide, by decide⟩ dX10_init_21 (fun qX7 H Z => ?_)
  refine lv_dup hx hb dX10_init_24 rfl ?_
  refine nw_callN C Z ki_X7 (C.2.2.2 _ nwi_22) wIM_yX7_init wI_X7 wC_yX7_init rfl ⟨by decide +kernel, by decide +kernel, by decide +kernel⟩ hl ⟨rfl, rfl, by decide, by decide, by decide, by decide⟩ (rest := [.ref qX7, .ref h0]) (Nat.le_of_ble_eq_true rfl) dX10_init_25 (fun adX7 H locs Z => ?_)
  refine nw_putF C Z hin 2 (by decide) wF_X10_23 rfl rfl rfl rfl dX10_init_28 (fun H locs Z => ?_)
  refine lv_aload_n hx hb dX10_init_31 rfl (lv_at hl 0 rfl) ?_
  refine nw_new (ci := 5) (nf := 12) C Z rfl inX5 tyX5_ok wK_X10_27 wN_X5 wI_X5 ⟨by decide, by decide⟩ dX10_init_32 (fun qX5 H Z => ?_)
  refine lv_dup hx hb dX10_init_35 rfl ?_
  refine nw_callN C Z ki_X5 (C.2.2.2 _ nwi_29) wIM_yX5_init wI_X5 wC_yX5_init rfl ⟨by decide +kernel, by decide +kernel, by decide +kernel⟩ hl ⟨rfl, rfl, by decide, by decide, by decide, by decide⟩ (rest := [.ref qX5, .ref h0]) (Nat.le_of_ble_eq_true rfl) dX10_init_36 (fun adX5 H locs Z => ?_)
  refine nw_putF C Z hin 3 (by decide) wF_X10_30 rfl rfl rfl rfl dX10_init_39 (fun H locs Z => ?_)
  refine lv_aload_n hx hb dX10_init_42 rfl (lv_at hl 0 rfl) ?_
  refine nw_new (ci := 2) (nf := 16) C Z rfl inX2 tyX2_ok wK_X10_34 wN_X2 wI_X2 ⟨by decide, by decide⟩ dX10_init_43 (fun qX2 H Z => ?_)
  refine lv_dup hx hb dX10_init_46 rfl ?_
  refine nw_callN C Z ki_X2 (C.2.2.2 _ nwi_36) wIM_yX2_init wI_X2 wC_yX2_init rfl ⟨by decide +kernel, by decide +kernel, by decide +kernel⟩ hl ⟨rfl, rfl, by decide, by decide, by decide, by decide⟩ (rest := [.ref qX2, .ref h0]) (Nat.le_of_ble_eq_true rfl) dX10_init_47 (fun adX2 H locs Z => ?_)
  refine nw_putF C Z hin 4 (by decide) wF_X10_37 rfl rfl rfl rfl dX10_init_50 (fun H locs Z => ?_)
  refine lv_aload_n hx hb dX10_init_53 rfl (lv_at hl 0 rfl) ?_
  refine nw_new (ci := 4) (nf := 10) C Z rfl inX4 tyX4_ok wK_X10_41 wN_X4 wI_X4 ⟨by decide, by decide⟩ dX10_init_54 (fun qX4 H Z => ?_)
  refine lv_dup hx hb dX10_init_57 rfl ?_
  refine lv_aload_n hx hb dX10_init_58 rfl (lv_at hl 0 rfl) ?_
  refine nw_get C Z 4 (by decide) wF_X10_37 rfl dX10_init_59 ?_
  refine nw_callI (nA := 1) C Z (ki_X4 (h1 := qX2)) wM_X10_43 wIM_yX4_init wI_X4 wC_yX4_init rfl rfl ⟨by decide +kernel, by decide +kernel, by decide +kernel⟩ hl ⟨rfl, rfl, by decide, by decide, by decide, by decide⟩ (rest := [.ref qX4, .ref h0]) (Nat.le_of_ble_eq_true rfl) rfl dX10_init_62 (fun adX4 H locs Z => ?_)
  refine nw_putF C Z hin 5 (by decide) wF_X10_46 rfl rfl rfl rfl dX10_init_65 (fun H locs Z => ?_)
  refine lv_aload_n hx hb dX10_init_68 rfl (lv_at hl 0 rfl) ?_
  refine lv_bipush (v := 9) hx hb dX10_init_69 (by decide) ?_
  refine nw_newJ (N := 9) C Z ⟨by decide, by decide, by decide⟩ ⟨by decide, by decide⟩ dX10_init_71 (fun qa0 H Z => ?_)
  refine nw_putF C Z hin 6 (by decide) wF_X10_50 rfl rfl rfl rfl dX10_init_73 (fun H locs Z => ?_)
  refine lv_aload_n hx hb dX10_init_76 rfl (lv_at hl 0 rfl) ?_
  refine lv_bipush (v := 9) hx hb dX10_init_77 (by decide) ?_
  refine nw_newJ (N := 9) C Z ⟨by decide, by decide, by decide⟩ ⟨by decide, by decide⟩ dX10_init_79 (fun qa1 H Z => ?_)
  refine nw_putF C Z hin 7 (by decide) wF_X10_54 rfl rfl rfl rfl dX10_init_81 (fun H locs Z => ?_)
  refine lv_aload_n hx hb dX10_init_84 rfl (lv_at hl 0 rfl) ?_
  refine lv_sipush (v := 750) hx hb dX10_init_85 (by decide) ?_
  refine nw_newI (N := 750) C Z ⟨by decide, by decide, by decide⟩ ⟨by decide, by decide⟩ dX10_init_88 (fun qa2 H Z => ?_)
  refine nw_putF C Z hin 8 (by decide) wF_X10_57 rfl rfl rfl rfl dX10_init_90 (fun H locs Z => ?_)
  refine lv_aload_n hx hb dX10_init_93 rfl (lv_at hl 0 rfl) ?_
  refine lv_iconst (v := 0) hx hb dX10_init_94 (by decide) ?_
  refine nw_put C Z 9 (by decide) wF_X10_61 rfl rfl rfl dX10_init_95 (fun H locs Z => ?_)
  refine lv_aload_n hx hb dX10_init_98 rfl (lv_at hl 0 rfl) ?_
  refine nw_new (ci := 1) (nf := 12) C Z rfl inX1 tyX1_ok wK_X10_64 wN_X1 wI_X1 ⟨by decide, by decide⟩ dX10_init_99 (fun qX1 H Z => ?_)
  refine lv_dup hx hb dX10_init_102 rfl ?_
  refine nw_callN C Z ki_X1 (C.2.2.2 _ nwi_66) wIM_yX1_init wI_X1 wC_yX1_init rfl ⟨by decide +kernel, by decide +kernel, by decide +kernel⟩ hl ⟨rfl, rfl, by decide, by decide, by decide, by decide⟩ (rest := [.ref qX1, .ref h0]) (Nat.le_of_ble_eq_true rfl) dX10_init_103 (fun adX1 H locs Z => ?_)
  refine nw_putF C Z hin 10 (by decide) wF_X10_67 rfl rfl rfl rfl dX10_init_106 (fun H locs Z => ?_)
  refine lv_aload_n hx hb dX10_init_109 rfl (lv_at hl 0 rfl) ?_
  refine nw_new (ci := 8) (nf := 8) C Z rfl inX8 tyX8_ok wK_X10_71 wN_X8 wI_X8 ⟨by decide, by decide⟩ dX10_init_110 (fun qX8 H Z => ?_)
  refine lv_dup hx hb dX10_init_113 rfl ?_
  refine nw_callN C Z ki_X8 (C.2.2.2 _ nwi_73) wIM_yX8_init wI_X8 wC_yX8_init rfl ⟨by decide +kernel, by decide +kernel, by decide +kernel⟩ hl ⟨rfl, rfl, by decide, by decide, by decide, by decide⟩ (rest := [.ref qX8, .ref h0]) (Nat.le_of_ble_eq_true rfl) dX10_init_114 (fun adX8 H locs Z => ?_)
  refine nw_putF C Z hin 11 (by decide) wF_X10_74 rfl rfl rfl rfl dX10_init_117 (fun H locs Z => ?_)
  refine lv_aload_n hx hb dX10_init_120 rfl (lv_at hl 0 rfl) ?_
  refine nw_new (ci := 9) (nf := 7) C Z rfl inX9 tyX9_ok wK_X10_78 wN_X9 wI_X9 ⟨by decide, by decide⟩ dX10_init_121 (fun qX9 H Z => ?_)
  refine lv_dup hx hb dX10_init_124 rfl ?_
  refine nw_callN C Z ki_X9 (C.2.2.2 _ nwi_80) wIM_yX9_init wI_X9 wC_yX9_init rfl ⟨by decide +kernel, by decide +kernel, by decide +kernel⟩ hl ⟨rfl, rfl, by decide, by decide, by decide, by decide⟩ (rest := [.ref qX9, .ref h0]) (Nat.le_of_ble_eq_true rfl) dX10_init_125 (fun adX9 H locs Z => ?_)
  refine nw_putF C Z hin 12 (by decide) wF_X10_81 rfl rfl rfl rfl dX10_init_128 (fun H locs Z => ?_)
  refine lv_aload_n hx hb dX10_init_131 rfl (lv_at hl 0 rfl) ?_
  refine nw_new (ci := 3) (nf := 3) C Z rfl inX3 tyX3_ok wK_X10_85 wN_X3 wI_X3 ⟨by decide, by decide⟩ dX10_init_132 (fun qX3 H Z => ?_)
  refine lv_dup hx hb dX10_init_135 rfl ?_
  refine nw_callN C Z ki_X3 (C.2.2.2 _ nwi_87) wIM_yX3_init wI_X3 wC_yX3_init rfl ⟨by decide +kernel, by decide +kernel, by decide +kernel⟩ hl ⟨rfl, rfl, by decide, by decide, by decide, by decide⟩ (rest := [.ref qX3, .ref h0]) (Nat.le_of_ble_eq_true rfl) dX10_init_136 (fun adX3 H locs Z => ?_)
  refine nw_putF C Z hin 13 (by decide) wF_X10_88 rfl rfl rfl rfl dX10_init_139 (fun H locs Z => ?_)
  refine lv_aload_n hx hb dX10_init_142 rfl (lv_at hl 0 rfl) ?_
  refine nw_new (ci := 0) (nf := 9) C Z rfl inX0 tyX0_ok wK_X10_92 wN_X0 wI_X0 ⟨by decide, by decide⟩ dX10_init_143 (fun qX0 H Z => ?_)
  refine lv_dup hx hb dX10_init_146 rfl ?_
  refine nw_callN C Z ki_X0 (C.2.2.2 _ nwi_94) wIM_yX0_init wI_X0 wC_yX0_init rfl ⟨by decide +kernel, by decide +kernel, by decide +kernel⟩ hl ⟨rfl, rfl, by decide, by decide, by decide, by decide⟩ (rest := [.ref qX0, .ref h0]) (Nat.le_of_ble_eq_true rfl) dX10_init_147 (fun adX0 H locs Z => ?_)
  refine nw_putF C Z hin 14 (by decide) wF_X10_95 rfl rfl rfl rfl dX10_init_150 (fun H locs Z => ?_)
  obtain ⟨hP, hD, hS⟩ := Z
  have hP : va_P D vwCl (LN kc h0 qX6 qX7 qX5 qX2 qX4 qX1 qX8 qX9 qX3 qX0 qa0 qa1 qa2 adX6 adX7 adX5 adX2 adX4 adX1 adX8 adX9 adX3 adX0) H := hP
  have hD : va_D A (LN kc h0 qX6 qX7 qX5 qX2 qX4 qX1 qX8 qX9 qX3 qX0 qa0 qa1 qa2 adX6 adX7 adX5 adX2 adX4 adX1 adX8 adX9 adX3 adX0) := hD
  exact W.vret hx hb hr (fun t ht hW => ⟨⟨adC h0 qX6 qX7 qX5 qX2 qX4 qX1 qX8 qX9 qX3 qX0 qa0 qa1 qa2 adX6 adX7 adX5 adX2 adX4 adX1 adX8 adX9 adX3 adX0, rfl, rfl, by rw [ht]; exact LN_P hP, LN_D hD⟩, hS.F ht⟩) hS.2.2 dX10_init_153
