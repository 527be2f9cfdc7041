/-! TWO WORLDS SIDE BY SIDE: a call in one leaves the other as it was -/
section TW
variable {E E' : ExT} {p : Program} {l : Launch} {e : Env} {R : Room} {s : State} {m : MethodId} {args : Array Value} {below : List Frame} {meth : Method} {c : Code} {H : Heap} {locs : List Loc} {cells slots : Nat} {Q : State → Prop}
variable {cc : ByteArray} {nL : Nat} {own : String} {pc : Nat} {ls : Array Slot} {rest : List Value} {D : va_G} {kc : Nat → ClassId} {ad ad2 : Nat → Nat} {A : Nat → Prop} {T T2 : Lay} {σ σ' τ : St}
theorem ws_mem {k q : Nat} {x : va_E} (h : (wsW T kc ad σ)[k]? = some (q, x)) : k < T.1 ∧ q = ad k := by
  have hk : k < T.1 := by
    have := (List.getElem?_eq_some_iff.mp h).1
    rw [ws_len] at this
    exact this
  rw [ws_get hk] at h
  exact ⟨hk, (congrArg Prod.fst (Option.some.inj h)).symm⟩
theorem Dy.kept2 (Z2 : Dy T2 kc ad2 D A s.heap τ H locs) (hdj : ∀ i, i < T.1 → ∀ j, j < T2.1 → ad i ≠ ad2 j) {H1 : Heap} {locs1 : List Loc} (hk : ∀ q : Nat, q < H.size → ¬ va_A (wsW T kc ad σ) H.size q → H1[q]? = H[q]?) (hS1 : va_S A s.heap H1 locs1) : Dy T2 kc ad2 D A s.heap τ H1 locs1 := by
  obtain ⟨hP, hD, -⟩ := Z2
  refine ⟨hP.kept (fun k x hx => ?_), hD, hS1⟩
  have hlt := (hP k x hx).lt
  refine hk x.1 hlt (fun z => ?_)
  obtain ⟨hk2, hq2⟩ := ws_mem (q := x.1) (x := x.2) hx
  rcases z with ⟨i, y, hi⟩ | z
  · obtain ⟨hi2, hq⟩ := ws_mem hi
    exact hdj i hi2 k hk2 (hq.symm.trans hq2)
  · omega
theorem g_run2 (C : Cx E p s m args c cc nL own D kc A) (Z : Dy T kc ad D A s.heap σ H locs) (Z2 : Dy T2 kc ad2 D A s.heap τ H locs) (hdj : ∀ i, i < T.1 → ∀ j, j < T2.1 → ad i ≠ ad2 j) {ov : Option Value} {st0 : List Value} {a : Array Value}
    (hr : va_Run p l e R s m args below meth c H locs cells slots 0 0 (F0 m pc ls st0) rest (QQ T kc ad D ov σ σ' H.size a) (va_A (wsW T kc ad σ) H.size))
    (kk : ∀ (H1 : Heap) (locs1 : List Loc), Dy T kc ad D A s.heap σ' H1 locs1 → Dy T2 kc ad2 D A s.heap τ H1 locs1 → W p l e R s m args below meth c H1 locs1 cells slots Q (F0 m (pc + 3) ls (ov.toList ++ rest))) : W p l e R s m args below meth c H locs cells slots Q (F0 m pc ls st0) := by
  have hF := Z.free C
  obtain ⟨hP, hD, hS⟩ := Z
  intro U hU X
  obtain ⟨v, st₀, t, U', L, h0, X', hL, e1, e2, ⟨hv, hP1, hD1, hz, hk⟩, st⟩ := hr U hU X
  have hv : v = ov := by injection hv
  subst hv
  rw [h0] at hz hk
  have hS1 : va_S A s.heap U'.heap (locs ++ L) := ⟨Nat.le_trans hS.1 (by rw [e1]; exact hz), fun q h1 h2 => by rw [e1, hk q (Nat.lt_of_lt_of_le h1 hS.1) (fun z => h2 (hF q z))]; exact hS.2.1 q h1 h2, fun q hq => by
      rcases List.mem_append.mp hq with h | h
      · exact hS.2.2 q h
      · exact hF _ (hL q h)⟩
  obtain ⟨t2, a1, b1⟩ := kk U'.heap (locs ++ L) ⟨by rw [e1]; exact hP1, hD1.weaken (fun _ q _ h => hF q.1 h), hS1⟩ (Z2.kept2 (σ := σ) hdj (fun q h1 h2 => by rw [e1]; exact hk q h1 h2) hS1) U' rfl X'
  exact ⟨t2, st t2 a1, b1⟩
theorem Pre_at2 (C : Cx E p s m args c cc nL own D kc A) (Z : Dy T kc ad D A s.heap σ H locs) (hE2 : ∀ U : State, U.heap = H → s.WarmedH U.vm → E' (va_A (wsW T kc ad σ) H.size) U U.heap) (U : State) (hU : U.heap = H) (hW : s.WarmedH U.vm) : Pre E' T kc ad D σ H.size U := by
  obtain ⟨-, hK, hA, -⟩ := C
  obtain ⟨hP, hD, hS⟩ := Z
  exact ⟨by rw [hU], by rw [hU]; exact hP, va_K.moved hW.alike hK, hD.weaken (fun _ _ _ _ => trivial), hE2 U hU hW⟩
theorem eC_at {adK adV : Nat → Nat} (C : Cx (eC adK adV) p s m args c cc nL own D kc A) (Z : Dy T kc ad D A s.heap σ H locs) (U : State) (hU : U.heap = H) (hW : s.WarmedH U.vm) : eC adK adV (va_A (wsW T kc ad σ) H.size) U U.heap := (Pre_at (eC_ok adK adV) C Z U hU hW).2.2.2.2
theorem g_call2 (hE : EOK E') (C : Cx E p s m args c cc nL own D kc A) (Z : Dy T kc ad D A s.heap σ H locs) (Z2 : Dy T2 kc ad2 D A s.heap τ H locs) (hdj : ∀ i, i < T.1 → ∀ j, j < T2.1 → ad i ≠ ad2 j) (hE2 : ∀ U : State, U.heap = H → s.WarmedH U.vm → E' (va_A (wsW T kc ad σ) H.size) U U.heap) {y : MethodName} {bytes : ByteArray} {maxL idx n j ci nf : Nat} {ret : Option FieldType} {rm : Room} {As : List Value} {ov : Option Value} {F : u_T}
    (K : KC E' T kc ad D l y (.code y bytes maxL ret) rm (.ref (ad j) :: As) ov σ σ') (lk : LkV own idx y bytes maxL ret n) (hj : j < T.1) (ho : T.2.1 j = some (ci, nf)) (hc : vwCl[ci]? = some (y.cls, F, nf)) {lv : List (Nat × Value)} (hl : lv_has ls nL lv) (hR : rm.cells = 0 ∧ rm.slots = 0 ∧ rm.frames + 1 ≤ R.frames ∧ 8 + (maxL + 11) + rm.locals ≤ R.locals) (hcs : cells ≤ R.cells ∧ slots ≤ R.slots) (hn : As.length = n) (hW : (rest.map fun v => v.category).sum ≤ 8) {st0 : List Value} (hst : st0 = As.reverse ++ .ref (ad j) :: rest) (hd : decode cc pc = .ok (.invokevirtual idx, 3))
    (kk : ∀ (H1 : Heap) (locs1 : List Loc), Dy T kc ad D A s.heap σ' H1 locs1 → Dy T2 kc ad2 D A s.heap τ H1 locs1 → W p l e R s m args below meth c H1 locs1 cells slots Q (F0 m (pc + 3) ls (ov.toList ++ rest))) : W p l e R s m args below meth c H locs cells slots Q (F0 m pc ls st0) := by
  obtain ⟨w1, w2, w3, w4, w5, w6⟩ := lk
  have hB := C.1.2.2.2.2
  refine g_run2 C Z Z2 hdj (a := (Value.ref (ad j) :: As).toArray) (va_runV (As := As) (rest := rest) C.1 (K H.size) ⟨callB_of n hB (bw_good0 w5) rfl hR.1 hR.2.1 (hB _ w4) (hB _ w1) w6 ⟨hR.2.2.1, hR.2.2.2⟩, hB _ w2, hB _ w3⟩ ⟨Pre_blind hE, va_recv C.2.1 Z.1 hc (q0 := j) (by rw [ws_get hj, ent_o ho]), fun U hU hW => ⟨rfl, Pre_at2 C Z hE2 U hU hW⟩⟩ rfl hn hl.1 hst (lv_room hW) hd hcs) kk
/-- the same for the one method behind which the class's code may lie elsewhere -/
theorem g_call2G {adK adV : Nat → Nat} (C : Cx (eC adK adV) p s m args c cc nL own D kc A) (Z : Dy tC kc ad D A s.heap σ H locs) (Z2 : Dy T2 kc ad2 D A s.heap τ H locs) (hdj : ∀ i, i < tC.1 → ∀ j, j < T2.1 → ad i ≠ ad2 j) {y : MethodName} {bytes : ByteArray} {maxL idx n j ci nf : Nat} {ret : Option FieldType} {rm : Room} {As : List Value} {ov : Option Value} {F : u_T}
    (K : KG (eC adK adV) kc ad D l y (.code y bytes maxL ret) rm (.ref (ad j) :: As) ov σ σ') (lk : LkV own idx y bytes maxL ret n) (hj : j < tC.1) (ho : tC.2.1 j = some (ci, nf)) (hc : vwCl[ci]? = some (y.cls, F, nf)) {lv : List (Nat × Value)} (hl : lv_has ls nL lv) (hR : rm.cells = 1 ∧ rm.slots = 5300 ∧ rm.frames + 1 ≤ R.frames ∧ 8 + (maxL + 11) + rm.locals ≤ R.locals) (hcs : cells + 1 ≤ R.cells ∧ slots + 5300 ≤ R.slots) (hn : As.length = n) (hW : (rest.map fun v => v.category).sum ≤ 8) {st0 : List Value} (hst : st0 = As.reverse ++ .ref (ad j) :: rest) (hd : decode cc pc = .ok (.invokevirtual idx, 3))
    (kk : ∀ (q : Nat) (H1 : Heap) (locs1 : List Loc), Dy tC kc (va_up ad 37 q) D A s.heap σ' H1 locs1 → Dy T2 kc ad2 D A s.heap τ H1 locs1 → (∀ i, i < tC.1 → ∀ j, j < T2.1 → va_up ad 37 q i ≠ ad2 j) → W p l e R s m args below meth c H1 locs1 (cells + 1) (slots + 5300) Q (F0 m (pc + 3) ls (ov.toList ++ rest))) : W p l e R s m args below meth c H locs cells slots Q (F0 m pc ls st0) := by
  obtain ⟨w1, w2, w3, w4, w5, w6⟩ := lk
  have hB := C.1.2.2.2.2
  have hr := va_runV (l := l) (e := e) (R := R) (locs := locs) (cells := cells) (slots := slots) (below := below) (meth := meth) (g := F0 m pc ls st0) (As := As) (rest := rest) C.1 (K H.size) ⟨callB_of n hB (bw_good0 w5) rfl hR.1 hR.2.1 (hB _ w4) (hB _ w1) w6 ⟨hR.2.2.1, hR.2.2.2⟩, hB _ w2, hB _ w3⟩ ⟨Pre_blind (eC_ok adK adV), va_recv C.2.1 Z.1 hc (q0 := j) (by rw [ws_get hj, ent_o ho]), fun U hU hW => ⟨rfl, Pre_at (eC_ok adK adV) C Z U hU hW⟩⟩ rfl hn hl.1 hst (lv_room hW) hd hcs
  have hF := Z.free C
  obtain ⟨hP, hD, hS⟩ := Z
  intro U hU X
  obtain ⟨v, st₀, t, U', L, h0, X', hL, e1, e2, ⟨hv, ⟨q, hP1, hD1⟩, hz, hk⟩, st⟩ := hr U hU X
  have hv : v = ov := by injection hv
  subst hv
  rw [h0] at hz hk
  have hS1 : va_S A s.heap U'.heap (locs ++ L) := ⟨Nat.le_trans hS.1 (by rw [e1]; exact hz), fun q h1 h2 => by rw [e1, hk q (Nat.lt_of_lt_of_le h1 hS.1) (fun z => h2 (hF q z))]; exact hS.2.1 q h1 h2, fun q hq => by
      rcases List.mem_append.mp hq with h | h
      · exact hS.2.2 q h
      · exact hF _ (hL q h)⟩
  have hdj2 : ∀ i, i < tC.1 → ∀ j, j < T2.1 → va_up ad 37 q i ≠ ad2 j := by
    intro i hi j hj e0
    by_cases h37 : i = 37
    · subst h37
      have hA1 := hD1.2 37 _ (ws_get hi)
      have hl2 : ad2 j < H.size := (Z2.1 j _ (ws_get hj)).lt
      rcases hA1 with ⟨k, x, hk'⟩ | h
      · obtain ⟨h1, h2⟩ := ws_mem hk'
        exact hdj k h1 j hj (h2.symm.trans e0)
      · have h : H.size ≤ va_up ad 37 q 37 := h
        rw [e0] at h
        omega
    · rw [upne h37] at e0
      exact hdj i hi j hj e0
  obtain ⟨t2, a1, b1⟩ := kk q U'.heap (locs ++ L) ⟨by rw [e1]; exact hP1, hD1.weaken (fun _ q _ h => hF q.1 h), hS1⟩ (Z2.kept2 (σ := σ) hdj (fun q h1 h2 => by rw [e1]; exact hk q h1 h2) hS1) hdj2 U' rfl X'
  exact ⟨t2, st t2 a1, b1⟩
end TW
/-- what is owed of the pure functions: from states that belong together both answer, and alike, and their states belong together again -/
def SimI (Inv : St → St → Prop) (fc fm : St → Option (Int32 × St)) : Prop := ∀ σ τ, Inv σ τ → ∃ (r : Int32) (σ' τ' : St), fc σ = some (r, σ') ∧ fm τ = some (r, τ') ∧ Inv σ' τ'
def SimL (Inv : St → St → Prop) (fc fm : St → Option (Int64 × St)) : Prop := ∀ σ τ, Inv σ τ → ∃ (r : Int64) (σ' τ' : St), fc σ = some (r, σ') ∧ fm τ = some (r, τ') ∧ Inv σ' τ'
theorem mapO {α : Type} {o : Option α} {σ σ' : St} {r : α} (h : o.map (fun v => (v, σ)) = some (r, σ')) : o = some r ∧ σ' = σ := by
  cases o with
  | none => cases h
  | some v =>
    have h1 := Option.some.inj h
    exact ⟨congrArg some (congrArg Prod.fst h1), (congrArg Prod.snd h1).symm⟩
