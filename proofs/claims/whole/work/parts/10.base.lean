/-! THE STATE of a system as numbers: scalar fields (100 * cell + slot), arrays of ints, arrays of longs (by cell) -/
abbrev St : Type := (Nat → Int32) × (Nat → Nat → Int32) × (Nat → Nat → Int64)
/-- a layout: how many cells; which are objects (class, fields); which field is a reference (to which cell); an array's kind (0 int, 1 long, 2 byte, 3 boolean); its length (none: it may change) -/
abbrev Lay : Type := Nat × (Nat → Option (Nat × Nat)) × (Nat → Nat → Option Nat) × (Nat → Nat) × (Nat → Option Nat)
def gF (σ : St) (k : Nat) : Int32 := σ.1 k
def sF (σ : St) (k : Nat) (v : Int32) : St := (fun j => if j = k then v else σ.1 j, σ.2.1, σ.2.2)
def sA (σ : St) (a i : Nat) (v : Int32) : St := (σ.1, fun b => if b = a then upd (σ.2.1 a) i v else σ.2.1 b, σ.2.2)
def sL (σ : St) (a i : Nat) (v : Int64) : St := (σ.1, σ.2.1, fun b => if b = a then vp_updL (σ.2.2 a) i v else σ.2.2 b)
def bnd {α β : Type} (x : α) (k : α → β) : β := k x
def lnO (T : Lay) (σ : St) (a : Nat) : Nat := match T.2.2.2.2 a with
  | some n => n
  | none => (σ.1 (100 * a + 99)).toNatClampNeg
def rd (T : Lay) (σ : St) (a : Nat) (i : Int32) : Option Int32 := if i < 0 ∨ lnO T σ a ≤ i.toNatClampNeg then none else some (σ.2.1 a i.toNatClampNeg)
def rl (T : Lay) (σ : St) (a : Nat) (i : Int32) : Option Int64 := if i < 0 ∨ lnO T σ a ≤ i.toNatClampNeg then none else some (σ.2.2 a i.toNatClampNeg)
def wr (T : Lay) (σ : St) (a : Nat) (i v : Int32) : Option St := if i < 0 ∨ lnO T σ a ≤ i.toNatClampNeg then none else some (sA σ a i.toNatClampNeg v)
def wl (T : Lay) (σ : St) (a : Nat) (i : Int32) (v : Int64) : Option St := if i < 0 ∨ lnO T σ a ≤ i.toNatClampNeg then none else some (sL σ a i.toNatClampNeg v)
def dvi (x y : Int32) : Option Int32 := if y = 0 then none else some (x / y)
def rmi (x y : Int32) : Option Int32 := if y = 0 then none else some (x - x / y * y)
def lenI (T : Lay) (σ : St) (a : Nat) : Int32 := Int32.ofNat (lnO T σ a)
/-- an array cell of a kind -/
def isArr (T : Lay) (K a : Nat) : Prop := a < T.1 ∧ T.2.1 a = none ∧ T.2.2.2.1 a = K
-- taking a program apart
theorem ob {α β : Type} {x : Option α} {k : α → Option β} {r : β} (h : x.bind k = some r) : ∃ v, x = some v ∧ k v = some r := by
  cases x with
  | none => cases h
  | some v => exact ⟨v, rfl, h⟩
theorem lb {α β : Type} {x : α} {k : α → β} {r : β} (h : bnd x k = r) : ∃ v, v = x ∧ k v = r := ⟨x, rfl, h⟩
theorem ip {α : Type} {c : Prop} {d : Decidable c} {a b r : α} (h : @ite α c d a b = r) (hc : c) : a = r := by rw [if_pos hc] at h; exact h
theorem im {α : Type} {c : Prop} {d : Decidable c} {a b r : α} (h : @ite α c d a b = r) (hc : ¬ c) : b = r := by rw [if_neg hc] at h; exact h
theorem rd_in {T : Lay} {σ : St} {a : Nat} {i v : Int32} (h : rd T σ a i = some v) : vp_in i (lnO T σ a) ∧ v = σ.2.1 a i.toNatClampNeg := by
  unfold rd at h
  split at h
  · cases h
  · rename_i q; exact ⟨q, (Option.some.inj h).symm⟩
theorem rl_in {T : Lay} {σ : St} {a : Nat} {i : Int32} {v : Int64} (h : rl T σ a i = some v) : vp_in i (lnO T σ a) ∧ v = σ.2.2 a i.toNatClampNeg := by
  unfold rl at h
  split at h
  · cases h
  · rename_i q; exact ⟨q, (Option.some.inj h).symm⟩
theorem wr_in {T : Lay} {σ σ' : St} {a : Nat} {i v : Int32} (h : wr T σ a i v = some σ') : vp_in i (lnO T σ a) ∧ σ' = sA σ a i.toNatClampNeg v := by
  unfold wr at h
  split at h
  · cases h
  · rename_i q; exact ⟨q, (Option.some.inj h).symm⟩
theorem wl_in {T : Lay} {σ σ' : St} {a : Nat} {i : Int32} {v : Int64} (h : wl T σ a i v = some σ') : vp_in i (lnO T σ a) ∧ σ' = sL σ a i.toNatClampNeg v := by
  unfold wl at h
  split at h
  · cases h
  · rename_i q; exact ⟨q, (Option.some.inj h).symm⟩
theorem dvi_in {x y v : Int32} (h : dvi x y = some v) : ¬ y = 0 ∧ v = x / y := by
  unfold dvi at h
  split at h
  · cases h
  · rename_i q; exact ⟨q, (Option.some.inj h).symm⟩
theorem rmi_in {x y v : Int32} (h : rmi x y = some v) : ¬ y = 0 ∧ v = x - x / y * y := by
  unfold rmi at h
  split at h
  · cases h
  · rename_i q; exact ⟨q, (Option.some.inj h).symm⟩
/-! THE WORLD that holds a state -/
def fval (T : Lay) (ad : Nat → Nat) (σ : St) (j k : Nat) : Value := match T.2.2.1 j k with
  | some t => .ref (ad t)
  | none => .int (σ.1 (100 * j + k))
def ent (T : Lay) (kc : Nat → ClassId) (ad : Nat → Nat) (σ : St) (j : Nat) : va_E := match T.2.1 j with
  | some q => .inr (q.1, (List.range q.2).map (fval T ad σ j))
  | none => .inl (kc (T.2.2.2.1 j), lnO T σ j, if T.2.2.2.1 j = 1 then .inr (.inl (σ.2.2 j)) else .inl (σ.2.1 j))
def wsW (T : Lay) (kc : Nat → ClassId) (ad : Nat → Nat) (σ : St) : va_W := (List.range T.1).map (fun j => (ad j, ent T kc ad σ j))
def kts (kc : Nat → ClassId) : List (ClassId × FieldType) := [(kc 0, .int), (kc 1, .long), (kc 2, .byte), (kc 3, .boolean)]
def LayOK (T : Lay) : Prop := ∀ (i : Nat) (q : Nat × Nat), T.2.1 i = some q → q.2 ≤ 99
section W1
variable {T : Lay} {kc : Nat → ClassId} {ad : Nat → Nat} {σ : St}
theorem ws_get {j : Nat} (h : j < T.1) : (wsW T kc ad σ)[j]? = some (ad j, ent T kc ad σ j) := by
  unfold wsW
  rw [List.getElem?_map, List.getElem?_range h]
  rfl
theorem ws_len : (wsW T kc ad σ).length = T.1 := by unfold wsW; rw [List.length_map, List.length_range]
theorem ws_set {σ' : St} {j : Nat} {e : va_E} (h : j < T.1) (he : ent T kc ad σ' j = e) (ho : ∀ i, i ≠ j → ent T kc ad σ' i = ent T kc ad σ i) : (wsW T kc ad σ).set j (ad j, e) = wsW T kc ad σ' := by
  apply List.ext_getElem?
  intro i
  by_cases hij : i = j
  · subst hij
    rw [List.getElem?_set_self (by rw [ws_len]; exact h), ws_get h, he]
  · rw [List.getElem?_set_ne (Ne.symm hij)]
    by_cases hi : i < T.1
    · rw [ws_get hi, ws_get hi, ho i hij]
    · rw [List.getElem?_eq_none (by rw [ws_len]; omega), List.getElem?_eq_none (by rw [ws_len]; omega)]
theorem ent_o {j ci n : Nat} (h : T.2.1 j = some (ci, n)) : ent T kc ad σ j = .inr (ci, (List.range n).map (fval T ad σ j)) := by
  unfold ent; rw [h]
theorem ent_i {j : Nat} (h : T.2.1 j = none) (hk : T.2.2.2.1 j ≠ 1) : ent T kc ad σ j = .inl (kc (T.2.2.2.1 j), lnO T σ j, .inl (σ.2.1 j)) := by
  unfold ent; rw [h]; simp only [if_neg hk]
theorem ent_l {j : Nat} (h : T.2.1 j = none) (hk : T.2.2.2.1 j = 1) : ent T kc ad σ j = .inl (kc 1, lnO T σ j, .inr (.inl (σ.2.2 j))) := by
  unfold ent; rw [h]; simp only [hk, if_true]
theorem lnO_sA {a b i : Nat} {v : Int32} : lnO T (sA σ a i v) b = lnO T σ b := rfl
theorem lnO_sL {a b i : Nat} {v : Int64} : lnO T (sL σ a i v) b = lnO T σ b := rfl
theorem lnO_sF {j k b : Nat} {v : Int32} (hk : k < 99) : lnO T (sF σ (100 * j + k) v) b = lnO T σ b := by
  unfold lnO sF
  cases T.2.2.2.2 b with
  | some n => rfl
  | none => simp only [if_neg (show ¬ 100 * b + 99 = 100 * j + k by omega)]
theorem ent_sA {a i : Nat} {v : Int32} (b : Nat) (hb : b ≠ a) : ent T kc ad (sA σ a i v) b = ent T kc ad σ b := by
  unfold ent
  cases h : T.2.1 b with
  | some q => rfl
  | none => simp only [lnO_sA, sA, if_neg hb]; rfl
theorem ent_sL {a i : Nat} {v : Int64} (b : Nat) (hb : b ≠ a) : ent T kc ad (sL σ a i v) b = ent T kc ad σ b := by
  unfold ent
  cases h : T.2.1 b with
  | some q => rfl
  | none => simp only [lnO_sL, sL, if_neg hb]; rfl
theorem ent_sF (hT : LayOK T) {j k : Nat} {v : Int32} (hk : k < 99) (b : Nat) (hb : b ≠ j) : ent T kc ad (sF σ (100 * j + k) v) b = ent T kc ad σ b := by
  unfold ent
  cases h : T.2.1 b with
  | some q =>
    have hq := hT b q h
    refine congrArg Sum.inr (congrArg (Prod.mk q.1) (List.map_congr_left fun x hx => ?_))
    have hx := List.mem_range.mp hx
    unfold fval sF
    cases T.2.2.1 b x with
    | some t => rfl
    | none => simp only [if_neg (show ¬ 100 * b + x = 100 * j + k by omega)]
  | none => simp only [lnO_sF hk]; rfl
theorem fields_set {j k n : Nat} {v : Int32} (hr : T.2.2.1 j k = none) : (List.range n).map (fval T ad (sF σ (100 * j + k) v) j) = ((List.range n).map (fval T ad σ j)).set k (.int v) := by
  apply List.ext_getElem?
  intro i
  by_cases hi : i = k
  · subst hi
    by_cases hn : i < n
    · rw [List.getElem?_set_self (by rw [List.length_map, List.length_range]; exact hn), List.getElem?_map, List.getElem?_range hn]
      simp [fval, sF, hr]
    · rw [List.getElem?_eq_none (by rw [List.length_map, List.length_range]; omega), List.getElem?_eq_none (by rw [List.length_set, List.length_map, List.length_range]; omega)]
  · rw [List.getElem?_set_ne (Ne.symm hi), List.getElem?_map, List.getElem?_map]
    cases h : (List.range n)[i]? with
    | none => rfl
    | some x =>
      have hx : x = i := by
        have := List.getElem?_eq_some_iff.mp h
        obtain ⟨h1, h2⟩ := this
        rw [List.getElem_range] at h2
        exact h2.symm
      subst hx
      simp only [Option.map_some]
      unfold fval sF
      cases T.2.2.1 j x with
      | some t => rfl
      | none => simp only [if_neg (show ¬ 100 * j + x = 100 * j + k by omega)]
end W1
/-- what a method's body has beside its world: tables, classes, and E (what else it may need) -/
abbrev ExT : Type := (Nat → Prop) → State → Heap → Prop
def EOK (E : ExT) : Prop := (∀ (A : Nat → Prop) (s U : State) (H : Heap), s.WarmedH U.vm → E A s H → E A U H) ∧ (∀ (A : Nat → Prop) (s : State) (H H1 : Heap), (∀ q, q < H.size → ¬ A q → H1[q]? = H[q]?) → E A s H → E A s H1) ∧ (∀ (A B : Nat → Prop) (s : State) (H : Heap), (∀ q, B q → A q) → E A s H → E B s H) ∧ (∀ (A : Nat → Prop) (s U : State) (H : Heap), s.vm = U.vm → E A s H → E A U H)
def Cx (E : ExT) (p : Program) (s : State) (m : MethodId) (args : Array Value) (c : Code) (cc : ByteArray) (nL : Nat) (own : String) (D : va_G) (kc : Nat → ClassId) (A : Nat → Prop) : Prop :=
  CallFix p m c cc nL s args bw own ∧ va_K D vwCl (kts kc) s ∧ (∀ q, s.heap.size ≤ q → A q) ∧ E A s s.heap
def Dy (T : Lay) (kc : Nat → ClassId) (ad : Nat → Nat) (D : va_G) (A : Nat → Prop) (H0 : Heap) (σ : St) (H : Heap) (locs : List Loc) : Prop :=
  va_P D vwCl (wsW T kc ad σ) H ∧ va_D A (wsW T kc ad σ) ∧ va_S A H0 H locs
section R1
variable {E : ExT} {p : Program} {l : Launch} {e : Env} {R : Room} {s : State} {m : MethodId} {args : Array Value} {below : List Frame} {meth : Method} {c : Code} {H : Heap} {locs : List Loc} {cells slots : Nat} {Q : State → Prop}
variable {cc : ByteArray} {nL : Nat} {own : String} {pc : Nat} {ls : Array Slot} {rest : List Value} {D : va_G} {kc : Nat → ClassId} {ad : Nat → Nat} {A : Nat → Prop} {T : Lay} {σ : St}
theorem g_get (C : Cx E p s m args c cc nL own D kc A) (Z : Dy T kc ad D A s.heap σ H locs) (j k : Nat) {ci n idx : Nat} {F : u_T} {RN : String} (hj : j < T.1) (ho : T.2.1 j = some (ci, n)) (hc : vwCl[ci]? = some (RN, F, n)) (hin : ∀ w ∈ u_ws RN F n, w ∈ bw) (hk : k < n) (hl : Cond.fieldLink own idx (F k).1 (F k).2.1 (F k).2.2.1 ∈ bw) {v : Value} (hv : fval T ad σ j k = v) (hd : decode cc pc = .ok (.getfield idx, 3))
    (kk : W p l e R s m args below meth c H locs cells slots Q (F0 m (pc + 3) ls (v :: rest))) : W p l e R s m args below meth c H locs cells slots Q (F0 m pc ls (.ref (ad j) :: rest)) := by
  obtain ⟨⟨hx, hb, -, hown, hB⟩, hK, -⟩ := C
  refine va_get (D := D) (ci := ci) (fs := (List.range n).map (fval T ad σ j)) hx hb hB hin hown hK Z.1 j (by rw [ws_get hj, ent_o ho]) hc k hk (hB _ hl) (fun _ h => h) (v := v) ?_ hd kk
  rw [List.getElem?_map, List.getElem?_range hk, ← hv]
  rfl
theorem g_put (hT : LayOK T) (C : Cx E p s m args c cc nL own D kc A) (Z : Dy T kc ad D A s.heap σ H locs) (j k : Nat) {ci n idx : Nat} {F : u_T} {RN : String} {ty0 : Nat → FieldType} (hj : j < T.1) (ho : T.2.1 j = some (ci, n)) (hc : vwCl[ci]? = some (RN, F, n)) (hin : ∀ w ∈ u_ws RN F n, w ∈ bw) (hty : ∀ k, k < n → parseFieldDescriptor (F k).2.2.1 = some (ty0 k)) (hnm : ∀ a, a < n → ∀ b, b < n → a ≠ b → (F a).2.1 ≠ (F b).2.1) (hk : k < n) (hl : Cond.fieldLink own idx (F k).1 (F k).2.1 (F k).2.2.1 ∈ bw) (hfin : (F k).2.2.2 = false) (hr : T.2.2.1 j k = none) {v : Int32} (hn : narrow (ty0 k) (.int v) = .int v) (hf : fits (ty0 k) (.int v) = true) (hd : decode cc pc = .ok (.putfield idx, 3))
    (kk : ∀ (H1 : Heap) (locs1 : List Loc), Dy T kc ad D A s.heap (sF σ (100 * j + k) v) H1 locs1 → W p l e R s m args below meth c H1 locs1 cells slots Q (F0 m (pc + 3) ls rest)) : W p l e R s m args below meth c H locs cells slots Q (F0 m pc ls (.int v :: .ref (ad j) :: rest)) := by
  obtain ⟨⟨hx, hb, -, hown, hB⟩, hK, -⟩ := C
  obtain ⟨hP, hD, hS⟩ := Z
  have hk99 : k < 99 := Nat.lt_of_lt_of_le hk (hT j _ ho)
  have hset : (wsW T kc ad σ).set j (ad j, .inr (ci, ((List.range n).map (fval T ad σ j)).set k (.int v))) = wsW T kc ad (sF σ (100 * j + k) v) := by
    refine ws_set hj ?_ (ent_sF hT hk99)
    rw [ent_o ho, fields_set hr]
  refine va_put (D := D) (ci := ci) (fs := (List.range n).map (fval T ad σ j)) hx hb hB hin ty0 hty hnm hown hK hP hD hS j (by rw [ws_get hj, ent_o ho]) hc k hk (hB _ hl) (fun _ h => h) hfin (hty k hk) hn hf (by rw [List.length_map, List.length_range]; exact hk) hd (fun H1 locs1 h1 h2 h3 => kk H1 locs1 ⟨?_, ?_, h3⟩)
  · rw [← hset]; exact h1
  · rw [← hset]; exact h2
theorem g_iald (C : Cx E p s m args c cc nL own D kc A) (Z : Dy T kc ad D A s.heap σ H locs) {a : Nat} (ha : isArr T 0 a) {i v : Int32} (hv : rd T σ a i = some v) (hd : decode cc pc = .ok (.iaload, 1))
    (kk : W p l e R s m args below meth c H locs cells slots Q (F0 m (pc + 1) ls (.int v :: rest))) : W p l e R s m args below meth c H locs cells slots Q (F0 m pc ls (.int i :: .ref (ad a) :: rest)) := by
  obtain ⟨⟨hx, hb, -, -, -⟩, hK, -⟩ := C
  obtain ⟨h1, rfl⟩ := rd_in hv
  exact va_iald hx hb hK Z.1 a 0 (by rw [ws_get ha.1, ent_i ha.2.1 (by rw [ha.2.2]; decide)]) (by rw [ha.2.2]; rfl) h1 hd kk
theorem g_bald (C : Cx E p s m args c cc nL own D kc A) (Z : Dy T kc ad D A s.heap σ H locs) {a : Nat} (ha : isArr T 2 a) {i v : Int32} (hv : rd T σ a i = some v) (hd : decode cc pc = .ok (.baload, 1))
    (kk : W p l e R s m args below meth c H locs cells slots Q (F0 m (pc + 1) ls (.int v :: rest))) : W p l e R s m args below meth c H locs cells slots Q (F0 m pc ls (.int i :: .ref (ad a) :: rest)) := by
  obtain ⟨⟨hx, hb, -, -, -⟩, hK, -⟩ := C
  obtain ⟨h1, rfl⟩ := rd_in hv
  exact va_bald hx hb hK Z.1 a 2 (by rw [ws_get ha.1, ent_i ha.2.1 (by rw [ha.2.2]; decide)]) (by rw [ha.2.2]; rfl) h1 hd kk
theorem g_zald (C : Cx E p s m args c cc nL own D kc A) (Z : Dy T kc ad D A s.heap σ H locs) {a : Nat} (ha : isArr T 3 a) {i v : Int32} (hv : rd T σ a i = some v) (hd : decode cc pc = .ok (.baload, 1))
    (kk : W p l e R s m args below meth c H locs cells slots Q (F0 m (pc + 1) ls (.int v :: rest))) : W p l e R s m args below meth c H locs cells slots Q (F0 m pc ls (.int i :: .ref (ad a) :: rest)) := by
  obtain ⟨⟨hx, hb, -, -, -⟩, hK, -⟩ := C
  obtain ⟨h1, rfl⟩ := rd_in hv
  exact va_zald hx hb hK Z.1 a 3 (by rw [ws_get ha.1, ent_i ha.2.1 (by rw [ha.2.2]; decide)]) (by rw [ha.2.2]; rfl) h1 hd kk
theorem g_lald (C : Cx E p s m args c cc nL own D kc A) (Z : Dy T kc ad D A s.heap σ H locs) {a : Nat} (ha : isArr T 1 a) {i : Int32} {v : Int64} (hv : rl T σ a i = some v) (hd : decode cc pc = .ok (.laload, 1))
    (kk : W p l e R s m args below meth c H locs cells slots Q (F0 m (pc + 1) ls (.long v :: rest))) : W p l e R s m args below meth c H locs cells slots Q (F0 m pc ls (.int i :: .ref (ad a) :: rest)) := by
  obtain ⟨⟨hx, hb, -, -, -⟩, hK, -⟩ := C
  obtain ⟨h1, rfl⟩ := rl_in hv
  exact va_lald hx hb hK Z.1 a 1 (by rw [ws_get ha.1, ent_l ha.2.1 ha.2.2]) rfl h1 hd kk
theorem g_iast (C : Cx E p s m args c cc nL own D kc A) (Z : Dy T kc ad D A s.heap σ H locs) {a : Nat} (ha : isArr T 0 a) {i v : Int32} {σ' : St} (hv : wr T σ a i v = some σ') (hd : decode cc pc = .ok (.iastore, 1))
    (kk : ∀ (H1 : Heap) (locs1 : List Loc), Dy T kc ad D A s.heap σ' H1 locs1 → W p l e R s m args below meth c H1 locs1 cells slots Q (F0 m (pc + 1) ls rest)) : W p l e R s m args below meth c H locs cells slots Q (F0 m pc ls (.int v :: .int i :: .ref (ad a) :: rest)) := by
  obtain ⟨⟨hx, hb, -, -, -⟩, hK, -⟩ := C
  obtain ⟨h1, rfl⟩ := wr_in hv
  obtain ⟨hP, hD, hS⟩ := Z
  have hk : T.2.2.2.1 a ≠ 1 := by rw [ha.2.2]; decide
  have hset : (wsW T kc ad σ).set a (ad a, .inl (kc (T.2.2.2.1 a), lnO T σ a, .inl (upd (σ.2.1 a) i.toNatClampNeg v))) = wsW T kc ad (sA σ a i.toNatClampNeg v) := by
    refine ws_set ha.1 ?_ ent_sA
    rw [ent_i ha.2.1 hk]; simp only [sA, if_true]; rfl
  refine va_iast hx hb hK hP hD hS a 0 (by rw [ws_get ha.1, ent_i ha.2.1 hk]) (by rw [ha.2.2]; rfl) h1 hd (fun H1 locs1 h1 h2 h3 => kk H1 locs1 ⟨?_, ?_, h3⟩)
  · rw [← hset]; exact h1
  · rw [← hset]; exact h2
theorem g_bast (C : Cx E p s m args c cc nL own D kc A) (Z : Dy T kc ad D A s.heap σ H locs) {a : Nat} (ha : isArr T 2 a) {i v : Int32} {σ' : St} (hv : wr T σ a i (vp_nar .byte v) = some σ') (hd : decode cc pc = .ok (.bastore, 1))
    (kk : ∀ (H1 : Heap) (locs1 : List Loc), Dy T kc ad D A s.heap σ' H1 locs1 → W p l e R s m args below meth c H1 locs1 cells slots Q (F0 m (pc + 1) ls rest)) : W p l e R s m args below meth c H locs cells slots Q (F0 m pc ls (.int v :: .int i :: .ref (ad a) :: rest)) := by
  obtain ⟨⟨hx, hb, -, -, -⟩, hK, -⟩ := C
  obtain ⟨h1, rfl⟩ := wr_in hv
  obtain ⟨hP, hD, hS⟩ := Z
  have hk : T.2.2.2.1 a ≠ 1 := by rw [ha.2.2]; decide
  have hset : (wsW T kc ad σ).set a (ad a, .inl (kc (T.2.2.2.1 a), lnO T σ a, .inl (upd (σ.2.1 a) i.toNatClampNeg (vp_nar .byte v)))) = wsW T kc ad (sA σ a i.toNatClampNeg (vp_nar .byte v)) := by
    refine ws_set ha.1 ?_ ent_sA
    rw [ent_i ha.2.1 hk]; simp only [sA, if_true]; rfl
  refine va_bast hx hb hK hP hD hS a 2 (by rw [ws_get ha.1, ent_i ha.2.1 hk]) (by rw [ha.2.2]; rfl) h1 hd (fun H1 locs1 h1 h2 h3 => kk H1 locs1 ⟨?_, ?_, h3⟩)
  · rw [← hset]; exact h1
  · rw [← hset]; exact h2
theorem g_zast (C : Cx E p s m args c cc nL own D kc A) (Z : Dy T kc ad D A s.heap σ H locs) {a : Nat} (ha : isArr T 3 a) {i v : Int32} {σ' : St} (hv : wr T σ a i (vp_nar .boolean v) = some σ') (hd : decode cc pc = .ok (.bastore, 1))
    (kk : ∀ (H1 : Heap) (locs1 : List Loc), Dy T kc ad D A s.heap σ' H1 locs1 → W p l e R s m args below meth c H1 locs1 cells slots Q (F0 m (pc + 1) ls rest)) : W p l e R s m args below meth c H locs cells slots Q (F0 m pc ls (.int v :: .int i :: .ref (ad a) :: rest)) := by
  obtain ⟨⟨hx, hb, -, -, -⟩, hK, -⟩ := C
  obtain ⟨h1, rfl⟩ := wr_in hv
  obtain ⟨hP, hD, hS⟩ := Z
  have hk : T.2.2.2.1 a ≠ 1 := by rw [ha.2.2]; decide
  have hset : (wsW T kc ad σ).set a (ad a, .inl (kc (T.2.2.2.1 a), lnO T σ a, .inl (upd (σ.2.1 a) i.toNatClampNeg (vp_nar .boolean v)))) = wsW T kc ad (sA σ a i.toNatClampNeg (vp_nar .boolean v)) := by
    refine ws_set ha.1 ?_ ent_sA
    rw [ent_i ha.2.1 hk]; simp only [sA, if_true]; rfl
  refine va_zast hx hb hK hP hD hS a 3 (by rw [ws_get ha.1, ent_i ha.2.1 hk]) (by rw [ha.2.2]; rfl) h1 hd (fun H1 locs1 h1 h2 h3 => kk H1 locs1 ⟨?_, ?_, h3⟩)
  · rw [← hset]; exact h1
  · rw [← hset]; exact h2
theorem g_last (C : Cx E p s m args c cc nL own D kc A) (Z : Dy T kc ad D A s.heap σ H locs) {a : Nat} (ha : isArr T 1 a) {i : Int32} {v : Int64} {σ' : St} (hv : wl T σ a i v = some σ') (hd : decode cc pc = .ok (.lastore, 1))
    (kk : ∀ (H1 : Heap) (locs1 : List Loc), Dy T kc ad D A s.heap σ' H1 locs1 → W p l e R s m args below meth c H1 locs1 cells slots Q (F0 m (pc + 1) ls rest)) : W p l e R s m args below meth c H locs cells slots Q (F0 m pc ls (.long v :: .int i :: .ref (ad a) :: rest)) := by
  obtain ⟨⟨hx, hb, -, -, -⟩, hK, -⟩ := C
  obtain ⟨h1, rfl⟩ := wl_in hv
  obtain ⟨hP, hD, hS⟩ := Z
  have hset : (wsW T kc ad σ).set a (ad a, .inl (kc 1, lnO T σ a, .inr (.inl (vp_updL (σ.2.2 a) i.toNatClampNeg v)))) = wsW T kc ad (sL σ a i.toNatClampNeg v) := by
    refine ws_set ha.1 ?_ ent_sL
    rw [ent_l ha.2.1 ha.2.2]; simp only [sL, if_true]; rfl
  refine va_last hx hb hK hP hD hS a 1 (by rw [ws_get ha.1, ent_l ha.2.1 ha.2.2]) rfl h1 hd (fun H1 locs1 h1 h2 h3 => kk H1 locs1 ⟨?_, ?_, h3⟩)
  · rw [← hset]; exact h1
  · rw [← hset]; exact h2
theorem g_len (C : Cx E p s m args c cc nL own D kc A) (Z : Dy T kc ad D A s.heap σ H locs) {a K : Nat} (ha : isArr T K a) (hK4 : K < 4) {v : Int32} (hv : lenI T σ a = v) (hd : decode cc pc = .ok (.arraylength, 1))
    (kk : W p l e R s m args below meth c H locs cells slots Q (F0 m (pc + 1) ls (.int v :: rest))) : W p l e R s m args below meth c H locs cells slots Q (F0 m pc ls (.ref (ad a) :: rest)) := by
  obtain ⟨⟨hx, hb, -, -, -⟩, hK, -⟩ := C
  obtain ⟨h1, h2, h3⟩ := ha
  subst h3
  by_cases hk : T.2.2.2.1 a = 1
  · exact va_alen (x := (lnO T σ a, .inr (.inl (σ.2.2 a)))) hx hb hK Z.1 a 1 (by rw [ws_get h1, ent_l h2 hk]) (ty := .long) rfl hv hd kk
  · have h4 : ∃ ty, (kts kc)[T.2.2.2.1 a]? = some (kc (T.2.2.2.1 a), ty) := by
      match h : T.2.2.2.1 a, hK4 with
      | 0, _ => exact ⟨_, rfl⟩
      | 1, _ => exact ⟨_, rfl⟩
      | 2, _ => exact ⟨_, rfl⟩
      | 3, _ => exact ⟨_, rfl⟩
      | n + 4, h => exact absurd h (by omega)
    obtain ⟨ty, h4⟩ := h4
    exact va_alen (x := (lnO T σ a, .inl (σ.2.1 a))) hx hb hK Z.1 a _ (by rw [ws_get h1, ent_i h2 hk]) h4 hv hd kk
end R1
