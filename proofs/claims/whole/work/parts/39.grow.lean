/-! GROWTH: Law.code may move to a new, longer array (its cell keeps its number 37, its address changes) -/
def wCopy (kc : Nat → ClassId) (a0 n0 : Nat) (f : Nat → Int32) : va_W := [(a0, .inl (kc 0, n0, .inl f))]
def r_J7_copyOf : Room := { frames := 2, cells := 1, slots := 5300, locals := 60 }
def QCopy (kc : Nat → ClassId) (D : va_G) (a0 n0 N : Nat) (f g : Nat → Int32) (sz : Nat) : Array Value → State → Outcome → State → Prop :=
  va_Qr (S := Unit) (fun _ => True) (fun _ q t => va_P D vwCl [(a0, .inl (kc 0, n0, .inl f)), (q, .inl (kc 0, N, .inl g))] t.heap ∧ va_D (va_A (wCopy kc a0 n0 f) sz) [(a0, .inl (kc 0, n0, .inl f)), (q, .inl (kc 0, N, .inl g))]) (va_A (wCopy kc a0 n0 f) sz)
set_option maxRecDepth 20000 in
theorem k_J7_copyOf {l : Launch} {kc : Nat → ClassId} {D : va_G} {a0 n0 : Nat} {f : Nat → Int32} {n : Int32} (hn : ¬ n < 0) (hN : n.toNatClampNeg ≤ 5300) (hne : ¬ n = Int32.ofNat n0) (hn0 : n0 < 2 ^ 31) (sz : Nat) : Met l yJ7_copyOf_59c91 (.code yJ7_copyOf_59c91 cJ7_copyOf_59c91 3 (some (.array .int)) :: bw) r_J7_copyOf (va_Pc [.ref a0, .int n] (fun U => U.heap.size = sz ∧ va_P D vwCl (wCopy kc a0 n0 f) U.heap ∧ va_K D vwCl (kts kc) U ∧ va_D (fun _ => True) (wCopy kc a0 n0 f))) (QCopy kc D a0 n0 n.toNatClampNeg f (va_cpy f (fun _ => 0) 0 0 (Min.min n0 n.toNatClampNeg)) sz) 1 5300 (va_A (wCopy kc a0 n0 f) sz) := by
  refine Met.ofW (cc := cJ7_copyOf_59c91) (maxL := 3) (ret := some (.array .int)) (by decide) rfl ?_
  intro p e s m args below meth c s₁ B hml hv
  obtain ⟨rfl, hsz, hP, hK, hD0⟩ := hv
  have hx := B.exec
  have hb := B.bytes
  have hr := B.returns
  have hts := atoms_spec (ws := .code yJ7_copyOf_59c91 cJ7_copyOf_59c91 3 (some (.array .int)) :: bw) B.pre
  have hB : ∀ w ∈ bw, w.before _ s = true := fun w hw => hts w (List.mem_cons_of_mem _ hw)
  have hown : s.vm.findClass RJ7 = some m.cls := findClass_of_methodNamed B.named
  have hlocks := B.notSynchronized
  subst hsz
  have hD := hD0.self (sz := s.heap.size)
  generalize hAe : va_A (wCopy kc a0 n0 f) s.heap.size = A at hD ⊢
  have hA : ∀ q : Nat, s.heap.size ≤ q → A q := fun q h => by rw [← hAe]; exact Or.inr h
  have hS : va_S A s.heap s.heap [] := va_S.rf
  have hP : va_P D vwCl [(a0, .inl (kc 0, n0, .inl f))] s.heap := hP
  have hD : va_D A [(a0, .inl (kc 0, n0, .inl f))] := hD
  have hl := lv_entry ([.ref a0, .int n]) (n := 3) (Nat.le_of_ble_eq_true rfl)
  rw [lg_entry_eq]
  generalize (lg_sl ([.ref a0, .int n]) ++ List.replicate (3 - (lg_sl ([.ref a0, .int n])).length) Slot.unset).toArray = ls at hl ⊢
  have hl : lv_has ls 3 [(0, .ref a0), (1, .int n)] := hl
  refine lv_iload_n hx hb dJ7_copyOf_59c91_0 rfl (lv_at hl 1 rfl) ?_
  refine lv_aload_n hx hb dJ7_copyOf_59c91_1 rfl (lv_at hl 0 rfl) ?_
  refine va_alen (x := (n0, .inl f)) hx hb hK hP 0 0 rfl rfl rfl dJ7_copyOf_59c91_2 ?_
  refine lv_icmp_ne (tgt := 14) hx hb dJ7_copyOf_59c91_3 (by decide) (fun _ => ?_) (fun q => absurd q hne)
  refine lv_iload_n hx hb dJ7_copyOf_59c91_14 rfl (lv_at hl 1 rfl) ?_
  refine va_newa (atype := .int) (a0 := (n.toNatClampNeg, .inl (fun _ => 0))) hx hb (hB _ wA_int) rfl hK hP hD hS hA (fun cA => rfl) hn rfl (by show n.toNatClampNeg * 4 ≤ 536870912; omega) (by decide) (by show 0 + n.toNatClampNeg ≤ 5300; omega) dJ7_copyOf_59c91_15 (fun q cA H hK hP hD hS => ?_)
  have ecA : cA = kc 0 := by
    have h1 := va_nm_int (hK.2 0 (kc 0, .int) rfl).2
    have h2 := va_nm_int (hK.2 4 (cA, .int) rfl).2
    exact Option.some.inj (h2.symm.trans h1)
  subst ecA
  have hP : va_P D vwCl [(a0, .inl (kc 0, n0, .inl f)), (q, .inl (kc 0, n.toNatClampNeg, .inl (fun _ => 0)))] H := hP
  have hD : va_D A [(a0, .inl (kc 0, n0, .inl f)), (q, .inl (kc 0, n.toNatClampNeg, .inl (fun _ => 0)))] := hD
  refine lv_astore_n (lv' := [(2, .ref q), (0, .ref a0), (1, .int n)]) hx hb dJ7_copyOf_59c91_17 rfl hl (by decide) rfl (fun ls hl => ?_)
  refine lv_aload_n hx hb dJ7_copyOf_59c91_18 rfl (lv_at hl 1 rfl) ?_
  refine lv_iconst (v := 0) hx hb dJ7_copyOf_59c91_19 (by decide) ?_
  refine lv_aload_n hx hb dJ7_copyOf_59c91_20 rfl (lv_at hl 0 rfl) ?_
  refine lv_iconst (v := 0) hx hb dJ7_copyOf_59c91_21 (by decide) ?_
  refine lv_aload_n hx hb dJ7_copyOf_59c91_22 rfl (lv_at hl 1 rfl) ?_
  refine va_alen (x := (n0, .inl f)) hx hb hK hP 0 0 rfl rfl rfl dJ7_copyOf_59c91_23 ?_
  refine lv_iload_n hx hb dJ7_copyOf_59c91_24 rfl (lv_at hl 2 rfl) ?_
  refine va_mmin hx hb (hml.trans hl.1.symm) hown (hB _ wM_J7_304) (hB _ wS_yJ9_min_7cf53) (hB _ wI_J9) (hB _ wC_yJ9_min_7cf53) (by decide) (rest := [.int 0, .ref q, .int 0, .ref a0]) (Nat.le_of_ble_eq_true rfl) (by decide) (by show 0 + n.toNatClampNeg ≤ 5300; omega) dJ7_copyOf_59c91_25 ?_
  have hnt : n.toInt = (n.toNatClampNeg : Int) := by
    have h0 := Int32.le_iff_toInt_le.mp (Int32.not_lt.mp hn)
    have h1 : (0 : Int32).toInt = 0 := by decide
    unfold Int32.toNatClampNeg
    omega
  have ei : ((if n < Int32.ofNat n0 then n else Int32.ofNat n0) : Int32).toNatClampNeg = Min.min n0 n.toNatClampNeg ∧ ¬ ((if n < Int32.ofNat n0 then n else Int32.ofNat n0) : Int32) < 0 := by
    have e0 : (Int32.ofNat n0).toInt = (n0 : Int) := nI_toInt hn0
    have e1 : (Int32.ofNat n0).toNatClampNeg = n0 := nI_clamp hn0
    by_cases h : n < Int32.ofNat n0
    · rw [if_pos h]
      have h2 := Int32.lt_iff_toInt_lt.mp h
      rw [e0, hnt] at h2
      exact ⟨by omega, hn⟩
    · rw [if_neg h, e1]
      have h2 := Int32.le_iff_toInt_le.mp (Int32.not_lt.mp h)
      rw [e0, hnt] at h2
      refine ⟨by omega, fun q => ?_⟩
      have h3 := Int32.lt_iff_toInt_lt.mp q
      rw [e0, show (0 : Int32).toInt = 0 by decide] at h3
      omega
  refine va_copyi hx hb (hml.trans hl.1.symm) hown (hB _ wM_J7_150) (hB _ wNat_arraycopy) (hB _ wS_arraycopy) (hB _ wI_J10) hK hP hD hS 0 1 0 0 rfl rfl rfl rfl rfl (by decide) (by decide) ei.2 (by rw [ei.1]; show 0 + _ ≤ n0; omega) (by rw [ei.1]; show 0 + _ ≤ n.toNatClampNeg; omega) (fun _ _ => rfl) (by decide) (rest := []) (Nat.le_of_ble_eq_true rfl) dJ7_copyOf_59c91_28 (fun H locs hP hD hS => ?_)
  rw [ei.1] at hP hD
  refine lv_aload_n hx hb dJ7_copyOf_59c91_31 rfl (lv_at hl 0 rfl) ?_
  refine W.widen (k := 1) (n := 5300) (by decide) (by show 0 + n.toNatClampNeg ≤ 5300; omega) ?_
  exact W.aret hx hb hr (Or.inr ⟨.int, rfl⟩) (Or.inr ⟨q, rfl⟩) (fun t ht hW => ⟨⟨(), q, rfl, trivial, by rw [ht]; exact hP, by rw [hAe]; exact hD⟩, by rw [hAe]; exact hS.F ht⟩) hS.2.2 dJ7_copyOf_59c91_32
/-- the state behind growth -/
def grown (σ : St) (n : Int32) : St := (fun j => if j = 3799 then n else σ.1 j, fun b => if b = 37 then va_cpy (σ.2.1 37) (fun _ => 0) 0 0 (Min.min (lnO tC σ 37) n.toNatClampNeg) else σ.2.1 b, σ.2.2)
theorem growC_in {σ σ' : St} {n : Int32} (h : growC σ n = some σ') : ¬ n < 0 ∧ n.toNatClampNeg ≤ 5300 ∧ ¬ n = lenI tC σ 37 ∧ σ' = grown σ n := by
  unfold growC at h
  split at h
  · cases h
  · rename_i q
    have q1 : ¬ n < 0 := fun z => q (Or.inl z)
    have q2 : ¬ 5300 < n.toNatClampNeg := fun z => q (Or.inr (Or.inl z))
    have q3 : ¬ n = lenI tC σ 37 := fun z => q (Or.inr (Or.inr z))
    exact ⟨q1, by omega, q3, (Option.some.inj h).symm⟩
def gwN (kc : Nat → ClassId) (σ : St) (n : Int32) : va_E := .inl (kc 0, n.toNatClampNeg, .inl (va_cpy (σ.2.1 37) (fun _ => 0) 0 0 (Min.min (lnO tC σ 37) n.toNatClampNeg)))
def gwL (kc : Nat → ClassId) (ad : Nat → Nat) (σ : St) (n : Int32) (q : Nat) : va_W := (wsW tC kc ad σ ++ [(q, gwN kc σ n)]).set 4 (ad 4, .inr (2, ((List.range 16).map (fval tC ad σ 4)).set 6 (.ref q)))
section GR
variable {kc : Nat → ClassId} {ad : Nat → Nat} {σ : St} {n : Int32} {q : Nat}
theorem upne {j : Nat} (h : j ≠ 37) : va_up ad 37 q j = ad j := by unfold va_up; rw [if_neg h]
theorem grown_ln {j : Nat} (h : j ≠ 37) : lnO tC (grown σ n) j = lnO tC σ j := by
  unfold lnO
  cases hj : tC.2.2.2.2 j with
  | some k => rfl
  | none =>
    show ((grown σ n).1 (100 * j + 99)).toNatClampNeg = _
    unfold grown
    simp only [if_neg (show ¬ 100 * j + 99 = 3799 by omega)]
theorem grown_ent {j : Nat} (h : j ≠ 37) (h4 : j ≠ 4) : ent tC kc (va_up ad 37 q) (grown σ n) j = ent tC kc ad σ j := by
  by_cases hj : j < 11
  · match j, hj with
    | 0, _ => rfl
    | 1, _ => rfl
    | 2, _ => rfl
    | 3, _ => rfl
    | 4, _ => exact absurd rfl h4
    | 5, _ => rfl
    | 6, _ => rfl
    | 7, _ => rfl
    | 8, _ => rfl
    | 9, _ => rfl
    | 10, _ => rfl
    | k + 11, hk => exact absurd hk (by omega)
  · have hn : tC.2.1 j = none := by
      show obC.getD j none = none
      rw [List.getD_eq_getElem?_getD, List.getElem?_eq_none (by show obC.length ≤ j; simp only [obC, List.length_cons, List.length_nil]; omega)]
      rfl
    by_cases hk : tC.2.2.2.1 j = 1
    · rw [ent_l hn hk, ent_l hn hk, grown_ln h]; rfl
    · rw [ent_i hn hk, ent_i hn hk, grown_ln h]
      show Sum.inl (_, _, Sum.inl ((grown σ n).2.1 j)) = _
      unfold grown
      simp only [if_neg h]
theorem grown_at (hn : ¬ n < 0) {j : Nat} (hj : j < 71) : (gwL kc ad σ n q)[if j = 37 then 71 else j]? = some (va_up ad 37 q j, ent tC kc (va_up ad 37 q) (grown σ n) j) := by
  have hlen : (wsW tC kc ad σ).length = 71 := ws_len
  unfold gwL
  by_cases h37 : j = 37
  · subst h37
    rw [if_pos rfl, List.getElem?_set_ne (by decide), List.getElem?_append_right (by rw [hlen]; exact Nat.le_refl _), hlen]
    rfl
  · rw [if_neg h37]
    by_cases h4 : j = 4
    · subst h4
      rw [List.getElem?_set_self (by rw [List.length_append, hlen]; exact Nat.lt_of_lt_of_le (by decide) (Nat.le_add_right 71 _))]
      rfl
    · rw [List.getElem?_set_ne (Ne.symm h4), List.getElem?_append_left (by rw [hlen]; exact hj), ws_get hj, upne h37, grown_ent h37 h4]
theorem grown_P {D : va_G} {H : Heap} (hn : ¬ n < 0) (h : va_P D vwCl (gwL kc ad σ n q) H) : va_P D vwCl (wsW tC kc (va_up ad 37 q) (grown σ n)) H := by
  intro k x hx
  have hk : k < 71 := by
    have := (List.getElem?_eq_some_iff.mp hx).1
    rw [ws_len] at this
    exact this
  rw [ws_get hk] at hx
  cases hx
  exact h _ _ (grown_at hn hk)
theorem grown_D {A : Nat → Prop} (hn : ¬ n < 0) (h : va_D A (gwL kc ad σ n q)) : va_D A (wsW tC kc (va_up ad 37 q) (grown σ n)) := by
  have lt : ∀ {k : Nat} {x : Nat × va_E}, (wsW tC kc (va_up ad 37 q) (grown σ n))[k]? = some x → k < 71 := by
    intro k x hx
    have := (List.getElem?_eq_some_iff.mp hx).1
    rw [ws_len] at this
    exact this
  refine ⟨fun i j x y hi hj hxy => ?_, fun k x hx => ?_⟩
  · have li := lt hi
    have lj := lt hj
    rw [ws_get li] at hi
    rw [ws_get lj] at hj
    cases hi; cases hj
    have := h.1 _ _ _ _ (grown_at hn li) (grown_at hn lj) hxy
    by_cases a : i = 37 <;> by_cases b : j = 37 <;> simp only [a, b, if_true, if_false] at this <;> omega
  · have lk := lt hx
    rw [ws_get lk] at hx
    cases hx
    exact h.2 _ _ (grown_at hn lk)
end GR
/-! contracts of methods behind which the array may lie elsewhere -/
def QG (kc : Nat → ClassId) (ad : Nat → Nat) (D : va_G) (ov : Option Value) (σ σ' : St) (sz : Nat) : Array Value → State → Outcome → State → Prop := fun _ st oc t => oc = .returned ov ∧ (∃ q : Nat, va_P D vwCl (wsW tC kc (va_up ad 37 q) σ') t.heap ∧ va_D (va_A (wsW tC kc ad σ) sz) (wsW tC kc (va_up ad 37 q) σ')) ∧ va_F (va_A (wsW tC kc ad σ) sz) st t
def KG (E : ExT) (kc : Nat → ClassId) (ad : Nat → Nat) (D : va_G) (l : Launch) (y : MethodName) (w0 : Cond) (rm : Room) (av : List Value) (ov : Option Value) (σ σ' : St) : Prop := ∀ sz : Nat, Met l y (w0 :: bw) rm (va_Pc av (Pre E tC kc ad D σ sz)) (QG kc ad D ov σ σ' sz) 1 5300 (va_A (wsW tC kc ad σ) sz)
theorem up_self (ad : Nat → Nat) : va_up ad 37 (ad 37) = ad := by
  funext j
  unfold va_up
  by_cases h : j = 37
  · rw [if_pos h, h]
  · rw [if_neg h]
section GC
variable {E : ExT} {p : Program} {l : Launch} {e : Env} {R : Room} {s : State} {m : MethodId} {args : Array Value} {below : List Frame} {meth : Method} {c : Code} {H : Heap} {locs : List Loc} {cells slots : Nat} {Q : State → Prop}
variable {cc : ByteArray} {nL : Nat} {own : String} {pc : Nat} {ls : Array Slot} {rest : List Value} {D : va_G} {kc : Nat → ClassId} {ad : Nat → Nat} {A : Nat → Prop} {σ σ' : St}
theorem g_runG (C : Cx E p s m args c cc nL own D kc A) (Z : Dy tC kc ad D A s.heap σ H locs) {ov : Option Value} {st0 : List Value} {a : Array Value}
    (hr : va_Run p l e R s m args below meth c H locs cells slots 1 5300 (F0 m pc ls st0) rest (QG kc ad D ov σ σ' H.size a) (va_A (wsW tC kc ad σ) H.size))
    (kk : ∀ (q : Nat) (H1 : Heap) (locs1 : List Loc), Dy tC kc (va_up ad 37 q) D A s.heap σ' H1 locs1 → W p l e R s m args below meth c H1 locs1 (cells + 1) (slots + 5300) Q (F0 m (pc + 3) ls (ov.toList ++ rest))) : W p l e R s m args below meth c H locs cells slots Q (F0 m pc ls st0) := by
  have hF := Z.free C
  obtain ⟨hP, hD, hS⟩ := Z
  intro U hU X
  obtain ⟨v, st₀, t, U', L, h0, X', hL, e1, e2, ⟨hv, ⟨q, hP1, hD1⟩, hz, hk⟩, st⟩ := hr U hU X
  have hv : v = ov := by injection hv
  subst hv
  rw [h0] at hz hk
  obtain ⟨t2, a1, b1⟩ := kk q U'.heap (locs ++ L) ⟨by rw [e1]; exact hP1, hD1.weaken (fun _ q _ h => hF q.1 h), Nat.le_trans hS.1 (by rw [e1]; exact hz), fun q h1 h2 => by rw [e1, hk q (Nat.lt_of_lt_of_le h1 hS.1) (fun z => h2 (hF q z))]; exact hS.2.1 q h1 h2, fun q hq => by
      rcases List.mem_append.mp hq with h | h
      · exact hS.2.2 q h
      · exact hF _ (hL q h)⟩ U' rfl X'
  exact ⟨t2, st t2 a1, b1⟩
theorem g_callG (hE : EOK E) (C : Cx E p s m args c cc nL own D kc A) (Z : Dy tC kc ad D A s.heap σ H locs) {y : MethodName} {bytes : ByteArray} {maxL idx n j ci nf : Nat} {ret : Option FieldType} {rm : Room} {As : List Value} {ov : Option Value} {F : u_T}
    (K : KG E kc ad D l y (.code y bytes maxL ret) rm (.ref (ad j) :: As) ov σ σ') (lk : LkV own idx y bytes maxL ret n) (hj : j < tC.1) (ho : tC.2.1 j = some (ci, nf)) (hc : vwCl[ci]? = some (y.cls, F, nf)) {lv : List (Nat × Value)} (hl : lv_has ls nL lv) (hR : rm.cells = 1 ∧ rm.slots = 5300 ∧ rm.frames + 1 ≤ R.frames ∧ 8 + (maxL + 11) + rm.locals ≤ R.locals ∧ cells + 1 ≤ R.cells ∧ slots + 5300 ≤ R.slots) (hn : As.length = n) (hW : (rest.map fun v => v.category).sum ≤ 8) {st0 : List Value} (hst : st0 = As.reverse ++ .ref (ad j) :: rest) (hd : decode cc pc = .ok (.invokevirtual idx, 3))
    (kk : ∀ (q : Nat) (H1 : Heap) (locs1 : List Loc), Dy tC kc (va_up ad 37 q) D A s.heap σ' H1 locs1 → W p l e R s m args below meth c H1 locs1 (cells + 1) (slots + 5300) Q (F0 m (pc + 3) ls (ov.toList ++ rest))) : W p l e R s m args below meth c H locs cells slots Q (F0 m pc ls st0) := by
  obtain ⟨w1, w2, w3, w4, w5, w6⟩ := lk
  have hB := C.1.2.2.2.2
  refine g_runG C Z (a := (Value.ref (ad j) :: As).toArray) (va_runV (As := As) (rest := rest) C.1 (K H.size) ⟨callB_of n hB (bw_good0 w5) rfl hR.1 hR.2.1 (hB _ w4) (hB _ w1) w6 ⟨hR.2.2.1, hR.2.2.2.1⟩, hB _ w2, hB _ w3⟩ ⟨Pre_blind hE, va_recv C.2.1 Z.1 hc (q0 := j) (by rw [ws_get hj, ent_o ho]), fun U hU hW => ⟨rfl, Pre_at hE C Z U hU hW⟩⟩ rfl hn hl.1 hst (lv_room hW) hd hR.2.2.2.2) kk
theorem g_enterG {y : MethodName} {ret : Option FieldType} {rm : Room} {av : List Value} {ov : Option Value} (hy : plainName y.cls = true) (hn : (lg_sl av).length ≤ nL)
    (body : ∀ (p : Program) (e : Env) (s : State) (m : MethodId) (args : Array Value) (below : List Frame) (meth : Method) (c : Code) (A : Nat → Prop), A = va_A (wsW tC kc ad σ) s.heap.size → Cx E p s m args c cc nL y.cls D kc A → meth.sig.returnType = ret → meth.locks = false → Dy tC kc ad D A s.heap σ s.heap [] → ∀ ls : Array Slot, lv_has ls nL (lv_args 0 av) → W p l e rm s m args below meth c s.heap [] 0 0 (MQ below (QG kc ad D ov σ σ' s.heap.size) args s 1 5300 A) (F0 m 0 ls [])) : KG E kc ad D l y (.code y cc nL ret) rm av ov σ σ' := by
  intro sz
  refine Met.ofW (cc := cc) (maxL := nL) (ret := ret) hy rfl ?_
  intro p e s m args below meth c s₁ B hml hv
  obtain ⟨rfl, hsz, hP, hK, hD0, hE0⟩ := hv
  have hx := B.exec
  have hb := B.bytes
  have hr := B.returns
  have hts := atoms_spec (ws := .code y cc nL ret :: bw) B.pre
  have hown : s.vm.findClass y.cls = some m.cls := findClass_of_methodNamed B.named
  have hlocks := B.notSynchronized
  subst hsz
  have hl := lv_entry av (n := nL) hn
  rw [lg_entry_eq]
  exact body p e s m av.toArray below meth c _ rfl ⟨⟨hx, hb, hml, hown, fun w hw => hts w (List.mem_cons_of_mem _ hw)⟩, hK, fun q h => Or.inr h, hE0⟩ hr hlocks ⟨hP, hD0.self (sz := s.heap.size), va_S.rf⟩ _ hl
theorem g_RTiG (hx : p.tables.exec = Jvm.exec) (hb : c.code = cc) {ty : FieldType} (hr : meth.sig.returnType = some ty) (hlocks : meth.locks = false) (hA : A = va_A (wsW tC kc ad σ) s.heap.size) {w : Int32} (q : Nat) : RTi 1 5300 p l e R s m args below meth c cc tC kc (va_up ad 37 q) D A (MQ below (QG kc ad D (some (.int w)) σ σ' s.heap.size) args s 1 5300 A) ty w σ' := by
  subst hA
  intro H locs ls pc v Z hd hn
  obtain ⟨hP, hD, hS⟩ := Z
  exact g_zret hx hb hr hn (fun t ht hW => ⟨rfl, ⟨q, by rw [ht]; exact hP, hD⟩, hS.F ht⟩) hS.2.2 hlocks hd
theorem g_RTvG (hx : p.tables.exec = Jvm.exec) (hb : c.code = cc) (hr : meth.sig.returnType = none) (hlocks : meth.locks = false) (hA : A = va_A (wsW tC kc ad σ) s.heap.size) (q : Nat) : RTv 1 5300 p l e R s m args below meth c cc tC kc (va_up ad 37 q) D A (MQ below (QG kc ad D none σ σ' s.heap.size) args s 1 5300 A) σ' := by
  subst hA
  intro H locs ls pc Z hd
  obtain ⟨hP, hD, hS⟩ := Z
  exact W.vret hx hb hr (fun t ht hW => ⟨rfl, ⟨q, by rw [ht]; exact hP, hD⟩, hS.F ht⟩) hS.2.2 hd hlocks
end GC

def r_X2_beginReading : Room := { frames := 3, cells := 1, slots := 5300, locals := 90 }
set_option maxRecDepth 20000 in
theorem w_X2_beginReading_47 {adK adV : Nat → Nat} {p : Program} {l : Launch} {e : Env} {s : State} {m : MethodId} {args : Array Value} {below : List Frame} {meth : Method} {c : Code} {Q : State → Prop} {D : va_G} {kc : Nat → ClassId} {ad : Nat → Nat} {A : Nat → Prop} (C : Cx (eC adK adV) p s m args c cX2_beginReading 1 RX2 D kc A) {R σ : St} (hR : RTv 1 5300 p l e r_X2_beginReading s m args below meth c cX2_beginReading tC kc ad D A Q R) {H : Heap} {locs : List Loc} {ls : Array Slot} (Z : Dy tC kc ad D A s.heap σ H locs) (hl : lv_has ls 1 [(0, .ref (ad 4))]) (h : f_X2_beginReading_47 σ = some R) : W p l e r_X2_beginReading s m args below meth c H locs 1 5300 Q (F0 m 47 ls []) := by
  have hx := C.1.1
  have hb := C.1.2.1
  unfold f_X2_beginReading_47 at h
  refine lv_aload_n hx hb dX2_beginReading_47 rfl (lv_at hl 0 rfl) ?_
  refine rg_X2_52 C Z dX2_beginReading_48 ?_
  refine lv_bipush (v := 12) hx hb dX2_beginReading_51 (by decide) ?_
  refine lv_icmp_ge (tgt := 66) hx hb dX2_beginReading_53 (by decide) (fun c53 => ?_) (fun c53 => ?_)
  · have h := ip h c53
    obtain rfl := Option.some.inj h
    exact hR _ _ _ _ Z dX2_beginReading_66
  · have h := im h c53
    refine lv_aload_n hx hb dX2_beginReading_56 rfl (lv_at hl 0 rfl) ?_
    refine rg_X2_24 C Z dX2_beginReading_57 ?_
    refine lv_aload_n hx hb dX2_beginReading_60 rfl (lv_at hl 0 rfl) ?_
    refine rg_X2_52 C Z dX2_beginReading_61 ?_
    refine lv_iconst (v := 0) hx hb dX2_beginReading_64 (by decide) ?_
    obtain ⟨σ3, hσ3, h⟩ := ob h
    refine g_iast C Z iaC36 hσ3 dX2_beginReading_65 (fun H locs Z => ?_)
    obtain rfl := Option.some.inj h
    exact hR _ _ _ _ Z dX2_beginReading_66
set_option maxRecDepth 20000 in
theorem k_X2_beginReading {adK adV : Nat → Nat} {l : Launch} {kc : Nat → ClassId} {ad : Nat → Nat} {D : va_G} {σ R : St} (h : f_X2_beginReading σ = some R) : KG (eC adK adV) kc ad D l yX2_beginReading (.code yX2_beginReading cX2_beginReading 1 none) r_X2_beginReading [.ref (ad 4)] none σ R := by
  refine g_enterG (by decide) (Nat.le_of_ble_eq_true rfl) ?_
  intro p e s m args below meth c A hA C hr hlocks Z ls hl
  have hl : lv_has ls 1 [(0, .ref (ad 4))] := hl
  have hx := C.1.1
  have hb := C.1.2.1
  have hB := C.1.2.2.2.2
  unfold f_X2_beginReading at h
  obtain ⟨σ1, eσ1, h⟩ := lb h
  refine lv_aload_n hx hb dX2_beginReading_0 rfl (lv_at hl 0 rfl) ?_
  refine lv_aload_n hx hb dX2_beginReading_1 rfl (lv_at hl 0 rfl) ?_
  refine rg_X2_60 C Z dX2_beginReading_2 ?_
  refine rp_X2_63 C Z eσ1 dX2_beginReading_5 (fun H locs Z => ?_)
  refine lv_aload_n hx hb dX2_beginReading_8 rfl (lv_at hl 0 rfl) ?_
  refine rg_X2_27 C Z dX2_beginReading_9 ?_
  refine g_len C Z iaC37 (by decide) (v := lenI tC σ1 37) rfl dX2_beginReading_12 ?_
  refine lv_aload_n hx hb dX2_beginReading_13 rfl (lv_at hl 0 rfl) ?_
  refine rg_X2_60 C Z dX2_beginReading_14 ?_
  refine lv_sipush (v := 400) hx hb dX2_beginReading_17 (by decide) ?_
  refine lv_iadd hx hb dX2_beginReading_20 ?_
  refine lv_icmp_ge (tgt := 47) hx hb dX2_beginReading_21 (by decide) (fun c21 => ?_) (fun c21 => ?_)
  · have h := ip h c21
    refine W.widen (k := 1) (n := 5300) (by decide) (by decide) ?_
    have hRT := g_RTvG (m := m) (l := l) (e := e) (R := r_X2_beginReading) (args := args) (below := below) (D := D) (σ' := R) hx hb hr hlocks hA (ad 37)
    rw [up_self] at hRT
    exact w_X2_beginReading_47 C hRT Z hl h
  · have h := im h c21
    obtain ⟨σ2, hσ2, h⟩ := ob h
    obtain ⟨g1, g2, g3, rfl⟩ := growC_in hσ2
    refine lv_aload_n hx hb dX2_beginReading_24 rfl (lv_at hl 0 rfl) ?_
    refine lv_aload_n hx hb dX2_beginReading_25 rfl (lv_at hl 0 rfl) ?_
    refine rg_X2_27 C Z dX2_beginReading_26 ?_
    refine lv_iconst (v := 0) hx hb dX2_beginReading_29 (by decide) ?_
    refine lv_aload_n hx hb dX2_beginReading_30 rfl (lv_at hl 0 rfl) ?_
    refine rg_X2_60 C Z dX2_beginReading_31 ?_
    refine g_max_7cf53 C hl wM_X2_66 (by decide) (rest := [.ref (ad 37), .ref (ad 4)]) (Nat.le_of_ble_eq_true rfl) dX2_beginReading_34 ?_
    refine lv_sipush (v := 400) hx hb dX2_beginReading_37 (by decide) ?_
    refine lv_iadd hx hb dX2_beginReading_40 ?_
    generalize hn : f_J9_max_7cf53 0 (gF σ1 407) + 400 = n at g1 g2 g3 h ⊢
    obtain ⟨hP, hD, hS⟩ := Z
    have hs0 := hS.1
    have h37 : (wsW tC kc ad σ1)[37]? = some (ad 37, .inl (kc 0, lnO tC σ1 37, .inl (σ1.2.1 37))) := by rw [ws_get (by decide), ent_i rfl (by decide)]; rfl
    have hPc : va_P D vwCl (wCopy kc (ad 37) (lnO tC σ1 37) (σ1.2.1 37)) H := hP.sub (ws' := [(ad 37, .inl (kc 0, lnO tC σ1 37, .inl (σ1.2.1 37)))]) [37] (by simp only [List.filterMap_cons, h37, List.filterMap_nil])
    have hDc : va_D A (wCopy kc (ad 37) (lnO tC σ1 37) (σ1.2.1 37)) := hD.sub (ws' := [(ad 37, .inl (kc 0, lnO tC σ1 37, .inl (σ1.2.1 37)))]) [37] (by decide) (by simp only [List.map_cons, h37, List.map_nil])
    have hFc : ∀ q, va_A (wCopy kc (ad 37) (lnO tC σ1 37) (σ1.2.1 37)) H.size q → A q := va_free hD hS C.2.2.1 [37] (by simp only [wCopy, List.map_cons, h37, List.map_nil])
    have hln : lnO tC σ1 37 < 2 ^ 31 := by
      show (σ1.1 3799).toNatClampNeg < 2 ^ 31
      have := Int32.toInt_lt (σ1.1 3799)
      unfold Int32.toNatClampNeg
      omega
    refine va_callr (A1 := va_A (wCopy kc (ad 37) (lnO tC σ1 37) (σ1.2.1 37)) H.size) (va_runS (As := [.ref (ad 37), .int n]) (rest := [.ref (ad 4)]) C.1 (k_J7_copyOf (kc := kc) (D := D) (a0 := ad 37) (f := σ1.2.1 37) g1 g2 g3 hln H.size) ⟨callB_of 2 hB (bw_good0 lk_X2_72.2.2.2.1) rfl rfl rfl (hB _ lk_X2_72.2.2.1) (hB _ lk_X2_72.1) lk_X2_72.2.2.2.2 ⟨by decide, by decide⟩, hB _ lk_X2_72.2.1⟩ ⟨fun a U g mk q => by obtain ⟨q0, q1, qP, qK, qD⟩ := q; exact ⟨q0, q1, qP, va_K.moved (u := U) (U := U.calling g mk a) (Vm.Alike.refl U.vm) qK, qD⟩, fun U hU hW => ⟨rfl, by rw [hU], by rw [hU]; exact hPc, va_K.moved hW.alike C.2.1, hDc.weaken (fun _ _ _ _ => trivial)⟩⟩ rfl rfl hl.1 rfl (lv_room (Nat.le_of_ble_eq_true rfl)) dX2_beginReading_41 ⟨by decide, by decide⟩) hS (fun q _ h => hFc q h) hFc (fun u q t H1 locs ht hvm _ hB1 hz1 hk1 hS => ?_)
    obtain ⟨hP2, hD2⟩ := hB1
    rw [ht] at hP2
    have hq : H.size ≤ q := by
      rcases hD2.2 1 _ rfl with ⟨k, e', hk⟩ | h
      · have hk0 : k = 0 := by
          have := (List.getElem?_eq_some_iff.mp hk).1
          show k = 0
          unfold wCopy at this
          simp only [List.length_cons, List.length_nil] at this
          omega
        subst hk0
        cases hk
        exact absurd (hD2.1 0 1 _ _ rfl rfl rfl) (by decide)
      · exact h
    have hkept : ∀ (k : Nat) (x : Nat × va_E), (wsW tC kc ad σ1)[k]? = some x → H1[x.1]? = H[x.1]? := by
      intro k x hx'
      by_cases hk : k = 37
      · subst hk
        rw [h37] at hx'
        cases hx'
        have a1 : H1[ad 37]? = some (vp_cell (kc 0) (lnO tC σ1 37, .inl (σ1.2.1 37))) := hP2 0 _ rfl
        have a2 : H[ad 37]? = some (vp_cell (kc 0) (lnO tC σ1 37, .inl (σ1.2.1 37))) := hP 37 _ h37
        exact a1.trans a2.symm
      · refine hk1 x.1 (hP k x hx').lt (fun z => ?_)
        rcases z with ⟨j, e', hj⟩ | z
        · have hj0 : j = 0 := by
            have := (List.getElem?_eq_some_iff.mp hj).1
            unfold wCopy at this
            simp only [List.length_cons, List.length_nil] at this
            omega
          subst hj0
          have ex : ad 37 = x.1 := by
            have := Option.some.inj hj
            exact congrArg Prod.fst this
          exact hk (hD.1 k 37 x _ hx' h37 ex.symm)
        · exact absurd (hP k x hx').lt (by omega)
    have hPn : va_P D vwCl (wsW tC kc ad σ1 ++ [(q, gwN kc σ1 n)]) H1 := (hP.kept hkept).app (fun k x hx' => hP2 1 x (by
      have hk0 : k = 0 := by
        have := (List.getElem?_eq_some_iff.mp hx').1
        simp only [List.length_cons, List.length_nil] at this
        omega
      subst hk0
      exact hx'))
    have hDn : va_D A (wsW tC kc ad σ1 ++ [(q, gwN kc σ1 n)]) := by
      refine hD.app ⟨fun i j x y hi hj _ => ?_, fun k x hx' => ?_⟩ (fun i j x y hi hj hxy => ?_)
      · have l1 := (List.getElem?_eq_some_iff.mp hi).1
        have l2 := (List.getElem?_eq_some_iff.mp hj).1
        simp only [List.length_cons, List.length_nil] at l1 l2
        omega
      · have hk0 : k = 0 := by
          have := (List.getElem?_eq_some_iff.mp hx').1
          simp only [List.length_cons, List.length_nil] at this
          omega
        subst hk0
        cases hx'
        exact C.2.2.1 q (Nat.le_trans hs0 hq)
      · have hj0 : j = 0 := by
          have := (List.getElem?_eq_some_iff.mp hj).1
          simp only [List.length_cons, List.length_nil] at this
          omega
        subst hj0
        cases hj
        have := (hP i x hi).lt
        simp only at hxy
        omega
    have h4 : (wsW tC kc ad σ1 ++ [(q, gwN kc σ1 n)])[4]? = some (ad 4, .inr (2, (List.range 16).map (fval tC ad σ1 4))) := by
      rw [List.getElem?_append_left (by rw [ws_len]; decide), ws_get (by decide), ent_o rfl]
    refine va_put (D := D) (ci := 2) (v := .ref q) (ty := .array .int) hx hb hB inX2 tyX2 tyX2_ok nmX2 C.1.2.2.2.1 C.2.1 hPn hDn hS 4 h4 rfl 6 (by decide) (hB _ wF_X2_27) (fun _ h => h) rfl rfl rfl rfl (by rw [List.length_map, List.length_range]; decide) dX2_beginReading_44 (fun H2 locs2 hP3 hD3 hS3 => ?_)
    have hRT := g_RTvG (m := m) (l := l) (e := e) (R := r_X2_beginReading) (args := args) (below := below) (D := D) (σ' := R) hx hb hr hlocks hA q
    exact w_X2_beginReading_47 (ad := va_up ad 37 q) C hRT ⟨grown_P g1 hP3, grown_D g1 hD3, hS3⟩ hl h

set_option maxRecDepth 20000 in
theorem k_X4_read {adK adV : Nat → Nat} {l : Launch} {kc : Nat → ClassId} {ad : Nat → Nat} {D : va_G} {x1 : Int32} {σ : St} {R : Int32 × St} (h : f_X4_read x1 σ = some R) : KG (eC adK adV) kc ad D l yX4_read (.code yX4_read cX4_read 3 (some .int)) r_X4_read [.ref (ad 5), .int x1] (some (.int R.1)) σ R.2 := by
  refine g_enterG (by decide) (Nat.le_of_ble_eq_true rfl) ?_
  intro p e s m args below meth c A hA C hr hlocks Z ls hl
  have hl : lv_has ls 3 [(0, .ref (ad 5)), (1, .int x1)] := hl
  have hx := C.1.1
  have hb := C.1.2.1
  unfold f_X4_read at h
  refine lv_aload_n hx hb dX4_read_0 rfl (lv_at hl 0 rfl) ?_
  refine lv_iconst (v := 0) hx hb dX4_read_1 (by decide) ?_
  obtain ⟨σ21, eσ21, h⟩ := lb h
  refine rp_X4_25 C Z eσ21 dX4_read_2 (fun H locs Z => ?_)
  refine lv_aload_n hx hb dX4_read_5 rfl (lv_at hl 0 rfl) ?_
  refine lv_iconst (v := 0) hx hb dX4_read_6 (by decide) ?_
  obtain ⟨σ22, eσ22, h⟩ := lb h
  refine rp_X4_28 C Z eσ22 dX4_read_7 (fun H locs Z => ?_)
  refine lv_aload_n hx hb dX4_read_10 rfl (lv_at hl 0 rfl) ?_
  refine lv_iconst (v := 0) hx hb dX4_read_11 (by decide) ?_
  obtain ⟨σ23, eσ23, h⟩ := lb h
  refine rp_X4_31 C Z eσ23 dX4_read_12 (fun H locs Z => ?_)
  refine lv_aload_n hx hb dX4_read_15 rfl (lv_at hl 0 rfl) ?_
  refine rg_X4_17 C Z dX4_read_16 ?_
  obtain ⟨σ24, hσ24, h⟩ := ob h
  refine g_callG (eC_ok adK adV) C Z (k_X2_beginReading hσ24) lk_X4_34 (by decide) rfl rfl hl (by decide) rfl (Nat.le_of_ble_eq_true rfl) (rest := []) rfl dX4_read_19 (fun q H locs Z => ?_)
  exact w_X4_read_22 (ad := va_up ad 37 q) C (g_RTiG hx hb hr hlocks hA q) Z hl h
set_option maxRecDepth 20000 in
theorem k_X10_statute {adK adV : Nat → Nat} {l : Launch} {kc : Nat → ClassId} {ad : Nat → Nat} {D : va_G} {x1 x2 : Int32} {σ : St} {R : Int32 × St} (h : f_X10_statute x1 x2 σ = some R) : KG (eC adK adV) kc ad D l yX10_statute (.code yX10_statute cX10_statute 4 (some .int)) r_X10_statute [.ref (ad 0), .int x1, .int x2] (some (.int R.1)) σ R.2 := by
  refine g_enterG (by decide) (Nat.le_of_ble_eq_true rfl) ?_
  intro p e s m args below meth c A hA C hr hlocks Z ls hl
  have hl : lv_has ls 4 [(0, .ref (ad 0)), (1, .int x1), (2, .int x2)] := hl
  have hx := C.1.1
  have hb := C.1.2.1
  have hR0 : ∀ (H : Heap) (locs : List Loc) (ls : Array Slot) (pc : Nat) (v : Int32), R = (v, σ) → Dy tC kc ad D A s.heap σ H locs → decode cX10_statute pc = .ok (.ireturn, 1) → W p l e r_X10_statute s m args below meth c H locs 0 0 (MQ below (QG kc ad D (some (.int R.1)) σ R.2 s.heap.size) args s 1 5300 A) (F0 m pc ls [.int v]) := by
    intro H locs ls pc v hv Z hd
    subst hv
    have hRT := g_RTiG (m := m) (l := l) (e := e) (R := r_X10_statute) (args := args) (below := below) (D := D) (σ' := σ) (w := v) hx hb hr hlocks hA (ad 37)
    rw [up_self] at hRT
    exact W.widen (k := 1) (n := 5300) (by decide) (by decide) (hRT _ _ _ _ _ Z hd rfl)
  unfold f_X10_statute at h
  refine lv_iload_n hx hb dX10_statute_0 rfl (lv_at hl 1 rfl) ?_
  refine g_callSi (eC_ok adK adV) C Z (k_X10_isAuthor x1 σ) lk_X10_218 hl (by decide) rfl (Nat.le_of_ble_eq_true rfl) (rest := []) rfl dX10_statute_1 (fun H locs Z => ?_)
  refine lv_if_eq (tgt := 31) hx hb dX10_statute_4 (by decide) (fun c4 => ?_) (fun c4 => ?_)
  · have h := ip h c4
    refine lv_iconst (v := -1) hx hb dX10_statute_31 (by decide) ?_
    exact hR0 _ _ _ _ _ (Option.some.inj h).symm Z dX10_statute_32
  · have h := im h c4
    refine lv_iload_n hx hb dX10_statute_7 rfl (lv_at hl 2 rfl) ?_
    refine lv_aload_n hx hb dX10_statute_8 rfl (lv_at hl 0 rfl) ?_
    refine rg_X10_7 C Z dX10_statute_9 ?_
    refine lv_sipush (v := 8999) hx hb dX10_statute_12 (by decide) ?_
    refine g_callSi (eC_ok adK adV) C Z (k_X10_lies x2 (gF σ 0) 8999 σ) lk_X10_99 hl (by decide) rfl (Nat.le_of_ble_eq_true rfl) (rest := []) rfl dX10_statute_15 (fun H locs Z => ?_)
    refine lv_if_eq (tgt := 31) hx hb dX10_statute_18 (by decide) (fun c18 => ?_) (fun c18 => ?_)
    · have h := ip h c18
      refine lv_iconst (v := -1) hx hb dX10_statute_31 (by decide) ?_
      exact hR0 _ _ _ _ _ (Option.some.inj h).symm Z dX10_statute_32
    · have h := im h c18
      refine lv_aload_n hx hb dX10_statute_21 rfl (lv_at hl 0 rfl) ?_
      refine rg_X10_37 C Z dX10_statute_22 ?_
      refine g_callVi (eC_ok adK adV) C Z (k_X2_isFull σ) lk_X10_221 (by decide) rfl rfl hl (by decide) rfl (Nat.le_of_ble_eq_true rfl) (rest := []) rfl dX10_statute_25 (fun H locs Z => ?_)
      refine lv_if_eq (tgt := 33) hx hb dX10_statute_28 (by decide) (fun c28 => ?_) (fun c28 => ?_)
      · have h := ip h c28
        refine lv_aload_n hx hb dX10_statute_33 rfl (lv_at hl 0 rfl) ?_
        refine rg_X10_46 C Z dX10_statute_34 ?_
        refine lv_iload_n hx hb dX10_statute_37 rfl (lv_at hl 1 rfl) ?_
        obtain ⟨u7, hu7, h⟩ := ob h
        refine g_callG (eC_ok adK adV) C Z (k_X4_read hu7) lk_X10_225 (by decide) rfl rfl hl (by decide) rfl (Nat.le_of_ble_eq_true rfl) (rest := []) rfl dX10_statute_38 (fun q H locs Z => ?_)
        exact w_X10_statute_41 (ad := va_up ad 37 q) C (g_RTiG hx hb hr hlocks hA q) Z hl h
      · have h := im h c28
        refine lv_iconst (v := -1) hx hb dX10_statute_31 (by decide) ?_
        exact hR0 _ _ _ _ _ (Option.some.inj h).symm Z dX10_statute_32
