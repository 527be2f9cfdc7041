def RmOK (r0 r : Room) : Prop := r0.cells = 0 ∧ r0.slots = 0 ∧ r.cells = 0 ∧ r.slots = 0 ∧ r0.frames + 1 ≤ r.frames ∧ 40 + r0.locals ≤ r.locals ∧ 40 ≤ r.frames ∧ 1000 ≤ r.locals
theorem rmIn {r0 r : Room} (h : RmOK r0 r) {maxL : Nat} (hm : maxL ≤ 20) : r0.cells = 0 ∧ r0.slots = 0 ∧ r0.frames + 1 ≤ r.frames ∧ 8 + (maxL + 11) + r0.locals ≤ r.locals ∧ 0 ≤ r.cells ∧ 0 ≤ r.slots := by
  obtain ⟨h1, h2, h3, h4, h5, h6, h7, h8⟩ := h
  exact ⟨h1, h2, h5, by omega, Nat.zero_le _, Nat.zero_le _⟩
theorem rmOut {r0 r q : Room} (h : RmOK r0 r) {maxL : Nat} (hm : q.cells = 0 ∧ q.slots = 0 ∧ q.frames + 1 ≤ 40 ∧ 8 + (maxL + 11) + q.locals ≤ 1000) : q.cells = 0 ∧ q.slots = 0 ∧ q.frames + 1 ≤ r.frames ∧ 8 + (maxL + 11) + q.locals ≤ r.locals ∧ 0 ≤ r.cells ∧ 0 ≤ r.slots := by
  obtain ⟨h1, h2, h3, h4, h5, h6, h7, h8⟩ := h
  obtain ⟨g1, g2, g3, g4⟩ := hm
  exact ⟨g1, g2, by omega, by omega, Nat.zero_le _, Nat.zero_le _⟩
def GH (kc : Nat → ClassId) (ad : Nat → Nat) (D : va_G) (l : Launch) (adK adV : Nat → Nat) (rc : Nat → Int32 → St → Option St) (rm : Room) : Prop := (∀ (d : Int32) (σ σ' : St), rc 0 d σ = some σ' → KC (eC adK adV) tC kc ad D l yX4_readTest (.code yX4_readTest cX4_readTest 3 none) rm [.ref (ad 5), .int d] none σ σ') ∧ (∀ (d : Int32) (σ σ' : St), rc 1 d σ = some σ' → KC (eC adK adV) tC kc ad D l yX4_readPart (.code yX4_readPart cX4_readPart 3 none) rm [.ref (ad 5), .int d] none σ σ') ∧ (∀ (d : Int32) (σ σ' : St), rc 2 d σ = some σ' → KC (eC adK adV) tC kc ad D l yX4_readFact (.code yX4_readFact cX4_readFact 2 none) rm [.ref (ad 5), .int d] none σ σ') ∧ (∀ (d : Int32) (σ σ' : St), rc 3 d σ = some σ' → KC (eC adK adV) tC kc ad D l yX4_readComparison (.code yX4_readComparison cX4_readComparison 3 none) rm [.ref (ad 5), .int d] none σ σ') ∧ (∀ (d : Int32) (σ σ' : St), rc 4 d σ = some σ' → KC (eC adK adV) tC kc ad D l yX4_readSum (.code yX4_readSum cX4_readSum 4 none) rm [.ref (ad 5), .int d] none σ σ') ∧ (∀ (d : Int32) (σ σ' : St), rc 5 d σ = some σ' → KC (eC adK adV) tC kc ad D l yX4_readProduct (.code yX4_readProduct cX4_readProduct 3 none) rm [.ref (ad 5), .int d] none σ σ') ∧ (∀ (d : Int32) (σ σ' : St), rc 6 d σ = some σ' → KC (eC adK adV) tC kc ad D l yX4_readValue (.code yX4_readValue cX4_readValue 3 none) rm [.ref (ad 5), .int d] none σ σ')

def r_X0_add : Room := { frames := 0, cells := 0, slots := 0, locals := 0 }
set_option maxRecDepth 20000 in
theorem w_X0_add_0 {p : Program} {l : Launch} {e : Env} {s : State} {m : MethodId} {args : Array Value} {below : List Frame} {meth : Method} {c : Code} {Q : State → Prop} {D : va_G} {kc : Nat → ClassId} {ad : Nat → Nat} {A : Nat → Prop} {adK adV : Nat → Nat} (C : Cx (eC adK adV) p s m args c cX0_add 4 RX0 D kc A) {R : Int32 × St} {x1 : Int32} {x2 : Int32} {x3 : Int32} {σ : St} (hR : RTi 0 0 p l e r_X0_add s m args below meth c cX0_add tC kc ad D A Q .int R.1 R.2) {H : Heap} {locs : List Loc} {ls : Array Slot} (Z : Dy tC kc ad D A s.heap σ H locs) (hl : lv_has ls 4 [(0, .ref (ad 10)), (1, .int x1), (2, .int x2), (3, .int x3)]) (h : f_X0_add x1 x2 x3 σ = some R) : W p l e r_X0_add s m args below meth c H locs 0 0 Q (F0 m 0 ls []) := by
  have hx := C.1.1
  have hb := C.1.2.1
  unfold f_X0_add at h
  refine lv_aload_n hx hb dX0_add_0 rfl (lv_at hl 0 rfl) ?_
  refine rg_X0_36 C Z dX0_add_1 ?_
  refine lv_bipush (v := 6) hx hb dX0_add_4 (by decide) ?_
  refine lv_icmp_lt (tgt := 11) hx hb dX0_add_6 (by decide) (fun c6 => ?_) (fun c6 => ?_)
  · have h := ip h c6
    refine lv_aload_n hx hb dX0_add_11 rfl (lv_at hl 0 rfl) ?_
    refine rg_X0_11 C Z dX0_add_12 ?_
    refine lv_aload_n hx hb dX0_add_15 rfl (lv_at hl 0 rfl) ?_
    refine rg_X0_36 C Z dX0_add_16 ?_
    refine lv_iload_n hx hb dX0_add_19 rfl (lv_at hl 1 rfl) ?_
    obtain ⟨σ9, hσ9, h⟩ := ob h
    refine g_iast C Z iaC65 hσ9 dX0_add_20 (fun H locs Z => ?_)
    refine lv_aload_n hx hb dX0_add_21 rfl (lv_at hl 0 rfl) ?_
    refine rg_X0_15 C Z dX0_add_22 ?_
    refine lv_aload_n hx hb dX0_add_25 rfl (lv_at hl 0 rfl) ?_
    refine rg_X0_36 C Z dX0_add_26 ?_
    refine lv_iload_n hx hb dX0_add_29 rfl (lv_at hl 2 rfl) ?_
    obtain ⟨σ10, hσ10, h⟩ := ob h
    refine g_iast C Z iaC66 hσ10 dX0_add_30 (fun H locs Z => ?_)
    refine lv_aload_n hx hb dX0_add_31 rfl (lv_at hl 0 rfl) ?_
    refine rg_X0_18 C Z dX0_add_32 ?_
    refine lv_aload_n hx hb dX0_add_35 rfl (lv_at hl 0 rfl) ?_
    refine rg_X0_36 C Z dX0_add_36 ?_
    refine lv_iload_n hx hb dX0_add_39 rfl (lv_at hl 3 rfl) ?_
    obtain ⟨σ11, hσ11, h⟩ := ob h
    refine g_iast C Z iaC67 hσ11 dX0_add_40 (fun H locs Z => ?_)
    refine lv_aload_n hx hb dX0_add_41 rfl (lv_at hl 0 rfl) ?_
    refine lv_dup hx hb dX0_add_42 rfl ?_
    refine rg_X0_36 C Z dX0_add_43 ?_
    refine lv_iconst (v := 1) hx hb dX0_add_46 (by decide) ?_
    refine lv_iadd hx hb dX0_add_47 ?_
    obtain ⟨σ12, eσ12, h⟩ := lb h
    refine rp_X0_36 C Z eσ12 dX0_add_48 (fun H locs Z => ?_)
    refine lv_aload_n hx hb dX0_add_51 rfl (lv_at hl 0 rfl) ?_
    refine rg_X0_36 C Z dX0_add_52 ?_
    refine lv_iconst (v := 1) hx hb dX0_add_55 (by decide) ?_
    refine lv_isub hx hb dX0_add_56 ?_
    obtain rfl := Option.some.inj h
    exact hR _ _ _ _ _ Z dX0_add_57 rfl
  · have h := im h c6
    refine lv_iconst (v := (-1)) hx hb dX0_add_9 (by decide) ?_
    obtain rfl := Option.some.inj h
    exact hR _ _ _ _ _ Z dX0_add_10 rfl
theorem k_X0_add {l : Launch} {kc : Nat → ClassId} {ad : Nat → Nat} {D : va_G} {adK adV : Nat → Nat} {x1 : Int32} {x2 : Int32} {x3 : Int32} {σ : St} {R : Int32 × St} (h : f_X0_add x1 x2 x3 σ = some R) : KC (eC adK adV) tC kc ad D l yX0_add (.code yX0_add cX0_add 4 (some .int)) r_X0_add [.ref (ad 10), .int x1, .int x2, .int x3] (some (.int R.1)) σ R.2 := by
  refine g_enter (by decide) (Nat.le_of_ble_eq_true rfl) ?_
  intro p e s m args below meth c A hA C hr hlocks Z ls hl
  have hl : lv_has ls 4 [(0, .ref (ad 10)), (1, .int x1), (2, .int x2), (3, .int x3)] := hl
  exact w_X0_add_0 C (g_RTi C.1.1 C.1.2.1 hr hlocks hA)  Z hl h
def r_X10_lies : Room := { frames := 0, cells := 0, slots := 0, locals := 0 }
set_option maxRecDepth 20000 in
theorem w_X10_lies_14 {p : Program} {l : Launch} {e : Env} {s : State} {m : MethodId} {args : Array Value} {below : List Frame} {meth : Method} {c : Code} {Q : State → Prop} {D : va_G} {kc : Nat → ClassId} {ad : Nat → Nat} {A : Nat → Prop} {adK adV : Nat → Nat} (C : Cx (eC adK adV) p s m args c cX10_lies 3 RX10 D kc A) {R : Int32} {σ : St} (hR : RTi 0 0 p l e r_X10_lies s m args below meth c cX10_lies tC kc ad D A Q .boolean R σ) {H : Heap} {locs : List Loc} {ls : Array Slot} (Z : Dy tC kc ad D A s.heap σ H locs) (hl : lv_has ls 3 []) (h : f_X10_lies_14 = R) : W p l e r_X10_lies s m args below meth c H locs 0 0 Q (F0 m 14 ls []) := by
  have hx := C.1.1
  have hb := C.1.2.1
  unfold f_X10_lies_14 at h
  refine lv_iconst (v := 0) hx hb dX10_lies_14 (by decide) ?_
  subst h
  exact hR _ _ _ _ _ Z dX10_lies_15 rfl
set_option maxRecDepth 20000 in
theorem w_X10_lies_0 {p : Program} {l : Launch} {e : Env} {s : State} {m : MethodId} {args : Array Value} {below : List Frame} {meth : Method} {c : Code} {Q : State → Prop} {D : va_G} {kc : Nat → ClassId} {ad : Nat → Nat} {A : Nat → Prop} {adK adV : Nat → Nat} (C : Cx (eC adK adV) p s m args c cX10_lies 3 RX10 D kc A) {R : Int32} {x0 : Int32} {x1 : Int32} {x2 : Int32} {σ : St} (hR : RTi 0 0 p l e r_X10_lies s m args below meth c cX10_lies tC kc ad D A Q .boolean R σ) {H : Heap} {locs : List Loc} {ls : Array Slot} (Z : Dy tC kc ad D A s.heap σ H locs) (hl : lv_has ls 3 [(0, .int x0), (1, .int x1), (2, .int x2)]) (h : f_X10_lies x0 x1 x2 = R) : W p l e r_X10_lies s m args below meth c H locs 0 0 Q (F0 m 0 ls []) := by
  have hx := C.1.1
  have hb := C.1.2.1
  unfold f_X10_lies at h
  refine lv_iload_n hx hb dX10_lies_0 rfl (lv_at hl 0 rfl) ?_
  refine lv_iload_n hx hb dX10_lies_1 rfl (lv_at hl 1 rfl) ?_
  refine lv_icmp_lt (tgt := 14) hx hb dX10_lies_2 (by decide) (fun c2 => ?_) (fun c2 => ?_)
  · have h := ip h c2
    exact w_X10_lies_14 C hR Z (lv_sub hl [] rfl) h
  · have h := im h c2
    refine lv_iload_n hx hb dX10_lies_5 rfl (lv_at hl 0 rfl) ?_
    refine lv_iload_n hx hb dX10_lies_6 rfl (lv_at hl 2 rfl) ?_
    refine lv_icmp_gt (tgt := 14) hx hb dX10_lies_7 (by decide) (fun c7 => ?_) (fun c7 => ?_)
    · have h := ip h c7
      exact w_X10_lies_14 C hR Z (lv_sub hl [] rfl) h
    · have h := im h c7
      refine lv_iconst (v := 1) hx hb dX10_lies_10 (by decide) ?_
      refine lv_goto (tgt := 15) hx hb dX10_lies_11 (by decide) ?_
      subst h
      exact hR _ _ _ _ _ Z dX10_lies_15 rfl
theorem k_X10_lies {l : Launch} {kc : Nat → ClassId} {ad : Nat → Nat} {D : va_G} {adK adV : Nat → Nat} (x0 : Int32) (x1 : Int32) (x2 : Int32) (σ : St) : KC (eC adK adV) tC kc ad D l yX10_lies (.code yX10_lies cX10_lies 3 (some .boolean)) r_X10_lies [.int x0, .int x1, .int x2] (some (.int (f_X10_lies x0 x1 x2))) σ σ := by
  refine g_enter (by decide) (Nat.le_of_ble_eq_true rfl) ?_
  intro p e s m args below meth c A hA C hr hlocks Z ls hl
  have hl : lv_has ls 3 [(0, .int x0), (1, .int x1), (2, .int x2)] := hl
  exact w_X10_lies_0 C (g_RTi C.1.1 C.1.2.1 hr hlocks hA)  Z hl rfl
def r_X0_cutOf : Room := { frames := 1, cells := 0, slots := 0, locals := 25 }
set_option maxRecDepth 20000 in
theorem w_X0_cutOf_0 {p : Program} {l : Launch} {e : Env} {s : State} {m : MethodId} {args : Array Value} {below : List Frame} {meth : Method} {c : Code} {Q : State → Prop} {D : va_G} {kc : Nat → ClassId} {ad : Nat → Nat} {A : Nat → Prop} {adK adV : Nat → Nat} (C : Cx (eC adK adV) p s m args c cX0_cutOf 4 RX0 D kc A) {R : Int32} {x1 : Int32} {x2 : Int32} {x3 : Int32} {σ : St} (hR : RTi 0 0 p l e r_X0_cutOf s m args below meth c cX0_cutOf tC kc ad D A Q .int R σ) {H : Heap} {locs : List Loc} {ls : Array Slot} (Z : Dy tC kc ad D A s.heap σ H locs) (hl : lv_has ls 4 [(0, .ref (ad 10)), (1, .int x1), (2, .int x2), (3, .int x3)]) (h : f_X0_cutOf x1 x2 x3 σ = some R) : W p l e r_X0_cutOf s m args below meth c H locs 0 0 Q (F0 m 0 ls []) := by
  have hx := C.1.1
  have hb := C.1.2.1
  unfold f_X0_cutOf at h
  refine lv_iload_n hx hb dX0_cutOf_0 rfl (lv_at hl 1 rfl) ?_
  refine lv_iconst (v := 0) hx hb dX0_cutOf_1 (by decide) ?_
  refine lv_aload_n hx hb dX0_cutOf_2 rfl (lv_at hl 0 rfl) ?_
  refine rg_X0_36 C Z dX0_cutOf_3 ?_
  refine lv_iconst (v := 1) hx hb dX0_cutOf_6 (by decide) ?_
  refine lv_isub hx hb dX0_cutOf_7 ?_
  refine g_callNi (eC_ok adK adV) C Z (k_X10_lies x1 0 ((gF σ 1003) - 1) σ) (C.2.2.2.1 _ nw_X0_39) lkn_X10_lies hl (by decide) rfl (Nat.le_of_ble_eq_true rfl) (rest := []) rfl dX0_cutOf_8 (fun H locs Z => ?_)
  refine lv_if_eq (tgt := 34) hx hb dX0_cutOf_11 (by decide) (fun c11 => ?_) (fun c11 => ?_)
  · have h := ip h c11
    refine lv_iconst (v := 0) hx hb dX0_cutOf_34 (by decide) ?_
    obtain rfl := Option.some.inj h
    exact hR _ _ _ _ _ Z dX0_cutOf_35 rfl
  · have h := im h c11
    refine lv_iconst (v := 0) hx hb dX0_cutOf_14 (by decide) ?_
    refine lv_iload_n hx hb dX0_cutOf_15 rfl (lv_at hl 2 rfl) ?_
    refine lv_aload_n hx hb dX0_cutOf_16 rfl (lv_at hl 0 rfl) ?_
    refine rg_X0_18 C Z dX0_cutOf_17 ?_
    refine lv_iload_n hx hb dX0_cutOf_20 rfl (lv_at hl 1 rfl) ?_
    obtain ⟨v3, hv3, h⟩ := ob h
    refine g_iald C Z iaC67 hv3 dX0_cutOf_21 ?_
    refine lv_imul hx hb dX0_cutOf_22 ?_
    refine lv_bipush (v := 10) hx hb dX0_cutOf_23 (by decide) ?_
    refine lv_iload_n hx hb dX0_cutOf_25 rfl (lv_at hl 3 rfl) ?_
    refine lv_imul hx hb dX0_cutOf_26 ?_
    refine lv_isub hx hb dX0_cutOf_27 ?_
    refine g_max_7cf53 C hl wM_X0_43 (by decide) (rest := []) (Nat.le_of_ble_eq_true rfl) dX0_cutOf_28 ?_
    refine lv_goto (tgt := 35) hx hb dX0_cutOf_31 (by decide) ?_
    obtain rfl := Option.some.inj h
    exact hR _ _ _ _ _ Z dX0_cutOf_35 rfl
theorem k_X0_cutOf {l : Launch} {kc : Nat → ClassId} {ad : Nat → Nat} {D : va_G} {adK adV : Nat → Nat} {x1 : Int32} {x2 : Int32} {x3 : Int32} {σ : St} {R : Int32} (h : f_X0_cutOf x1 x2 x3 σ = some R) : KC (eC adK adV) tC kc ad D l yX0_cutOf (.code yX0_cutOf cX0_cutOf 4 (some .int)) r_X0_cutOf [.ref (ad 10), .int x1, .int x2, .int x3] (some (.int R)) σ σ := by
  refine g_enter (by decide) (Nat.le_of_ble_eq_true rfl) ?_
  intro p e s m args below meth c A hA C hr hlocks Z ls hl
  have hl : lv_has ls 4 [(0, .ref (ad 10)), (1, .int x1), (2, .int x2), (3, .int x3)] := hl
  exact w_X0_cutOf_0 C (g_RTi C.1.1 C.1.2.1 hr hlocks hA)  Z hl h
def r_X0_caughtOf : Room := { frames := 1, cells := 0, slots := 0, locals := 22 }
set_option maxRecDepth 20000 in
theorem w_X0_caughtOf_0 {p : Program} {l : Launch} {e : Env} {s : State} {m : MethodId} {args : Array Value} {below : List Frame} {meth : Method} {c : Code} {Q : State → Prop} {D : va_G} {kc : Nat → ClassId} {ad : Nat → Nat} {A : Nat → Prop} {adK adV : Nat → Nat} (C : Cx (eC adK adV) p s m args c cX0_caughtOf 3 RX0 D kc A) {R : Int32} {x1 : Int32} {x2 : Int32} {σ : St} (hR : RTi 0 0 p l e r_X0_caughtOf s m args below meth c cX0_caughtOf tC kc ad D A Q .int R σ) {H : Heap} {locs : List Loc} {ls : Array Slot} (Z : Dy tC kc ad D A s.heap σ H locs) (hl : lv_has ls 3 [(0, .ref (ad 10)), (1, .int x1), (2, .int x2)]) (h : f_X0_caughtOf x1 x2 σ = some R) : W p l e r_X0_caughtOf s m args below meth c H locs 0 0 Q (F0 m 0 ls []) := by
  have hx := C.1.1
  have hb := C.1.2.1
  unfold f_X0_caughtOf at h
  refine lv_iload_n hx hb dX0_caughtOf_0 rfl (lv_at hl 1 rfl) ?_
  refine lv_iconst (v := 0) hx hb dX0_caughtOf_1 (by decide) ?_
  refine lv_aload_n hx hb dX0_caughtOf_2 rfl (lv_at hl 0 rfl) ?_
  refine rg_X0_36 C Z dX0_caughtOf_3 ?_
  refine lv_iconst (v := 1) hx hb dX0_caughtOf_6 (by decide) ?_
  refine lv_isub hx hb dX0_caughtOf_7 ?_
  refine g_callNi (eC_ok adK adV) C Z (k_X10_lies x1 0 ((gF σ 1003) - 1) σ) (C.2.2.2.1 _ nw_X0_39) lkn_X10_lies hl (by decide) rfl (Nat.le_of_ble_eq_true rfl) (rest := []) rfl dX0_caughtOf_8 (fun H locs Z => ?_)
  refine lv_if_eq (tgt := 38) hx hb dX0_caughtOf_11 (by decide) (fun c11 => ?_) (fun c11 => ?_)
  · have h := ip h c11
    refine lv_iconst (v := 0) hx hb dX0_caughtOf_38 (by decide) ?_
    obtain rfl := Option.some.inj h
    exact hR _ _ _ _ _ Z dX0_caughtOf_39 rfl
  · have h := im h c11
    refine lv_iload_n hx hb dX0_caughtOf_14 rfl (lv_at hl 2 rfl) ?_
    refine lv_aload_n hx hb dX0_caughtOf_15 rfl (lv_at hl 0 rfl) ?_
    refine rg_X0_11 C Z dX0_caughtOf_16 ?_
    refine lv_iload_n hx hb dX0_caughtOf_19 rfl (lv_at hl 1 rfl) ?_
    obtain ⟨v5, hv5, h⟩ := ob h
    refine g_iald C Z iaC65 hv5 dX0_caughtOf_20 ?_
    refine lv_imul hx hb dX0_caughtOf_21 ?_
    refine lv_iload_n hx hb dX0_caughtOf_22 rfl (lv_at hl 2 rfl) ?_
    refine lv_iload_n hx hb dX0_caughtOf_23 rfl (lv_at hl 2 rfl) ?_
    refine lv_iconst (v := 1) hx hb dX0_caughtOf_24 (by decide) ?_
    refine lv_isub hx hb dX0_caughtOf_25 ?_
    refine lv_imul hx hb dX0_caughtOf_26 ?_
    refine lv_aload_n hx hb dX0_caughtOf_27 rfl (lv_at hl 0 rfl) ?_
    refine rg_X0_15 C Z dX0_caughtOf_28 ?_
    refine lv_iload_n hx hb dX0_caughtOf_31 rfl (lv_at hl 1 rfl) ?_
    obtain ⟨v6, hv6, h⟩ := ob h
    refine g_iald C Z iaC66 hv6 dX0_caughtOf_32 ?_
    refine lv_imul hx hb dX0_caughtOf_33 ?_
    refine lv_isub hx hb dX0_caughtOf_34 ?_
    refine lv_goto (tgt := 39) hx hb dX0_caughtOf_35 (by decide) ?_
    obtain rfl := Option.some.inj h
    exact hR _ _ _ _ _ Z dX0_caughtOf_39 rfl
theorem k_X0_caughtOf {l : Launch} {kc : Nat → ClassId} {ad : Nat → Nat} {D : va_G} {adK adV : Nat → Nat} {x1 : Int32} {x2 : Int32} {σ : St} {R : Int32} (h : f_X0_caughtOf x1 x2 σ = some R) : KC (eC adK adV) tC kc ad D l yX0_caughtOf (.code yX0_caughtOf cX0_caughtOf 3 (some .int)) r_X0_caughtOf [.ref (ad 10), .int x1, .int x2] (some (.int R)) σ σ := by
  refine g_enter (by decide) (Nat.le_of_ble_eq_true rfl) ?_
  intro p e s m args below meth c A hA C hr hlocks Z ls hl
  have hl : lv_has ls 3 [(0, .ref (ad 10)), (1, .int x1), (2, .int x2)] := hl
  exact w_X0_caughtOf_0 C (g_RTi C.1.1 C.1.2.1 hr hlocks hA)  Z hl h
def r_X0_weightOf : Room := { frames := 2, cells := 0, slots := 0, locals := 48 }
set_option maxRecDepth 20000 in
theorem w_X0_weightOf_0 {p : Program} {l : Launch} {e : Env} {s : State} {m : MethodId} {args : Array Value} {below : List Frame} {meth : Method} {c : Code} {Q : State → Prop} {D : va_G} {kc : Nat → ClassId} {ad : Nat → Nat} {A : Nat → Prop} {adK adV : Nat → Nat} (C : Cx (eC adK adV) p s m args c cX0_weightOf 4 RX0 D kc A) {R : Int64} {x1 : Int32} {x2 : Int32} {x3 : Int32} {σ : St} (hR : RTl 0 0 p l e r_X0_weightOf s m args below meth c cX0_weightOf tC kc ad D A Q R σ) {H : Heap} {locs : List Loc} {ls : Array Slot} (Z : Dy tC kc ad D A s.heap σ H locs) (hl : lv_has ls 4 [(0, .ref (ad 10)), (1, .int x1), (2, .int x2), (3, .int x3)]) (h : f_X0_weightOf x1 x2 x3 σ = some R) : W p l e r_X0_weightOf s m args below meth c H locs 0 0 Q (F0 m 0 ls []) := by
  have hx := C.1.1
  have hb := C.1.2.1
  unfold f_X0_weightOf at h
  refine lv_aload_n hx hb dX0_weightOf_0 rfl (lv_at hl 0 rfl) ?_
  refine lv_iload_n hx hb dX0_weightOf_1 rfl (lv_at hl 1 rfl) ?_
  refine lv_iload_n hx hb dX0_weightOf_2 rfl (lv_at hl 2 rfl) ?_
  refine lv_iload_n hx hb dX0_weightOf_3 rfl (lv_at hl 3 rfl) ?_
  obtain ⟨v3, hv3, h⟩ := ob h
  refine g_callVi (eC_ok adK adV) C Z (k_X0_cutOf hv3) lk_X0_49 (by decide) rfl rfl hl (by decide) rfl (Nat.le_of_ble_eq_true rfl) (rest := []) rfl dX0_weightOf_4 (fun H locs Z => ?_)
  refine lv_i2l (v := v3.toInt64) hx hb dX0_weightOf_7 rfl ?_
  refine lv_ldc2 (v := 1000000) hx hb C.1.2.2.2.1 (C.1.2.2.2.2 _ wDL_X0_53) dX0_weightOf_8 ?_
  refine lv_lmul hx hb dX0_weightOf_11 ?_
  refine lv_aload_n hx hb dX0_weightOf_12 rfl (lv_at hl 0 rfl) ?_
  refine lv_iload_n hx hb dX0_weightOf_13 rfl (lv_at hl 1 rfl) ?_
  refine lv_iload_n hx hb dX0_weightOf_14 rfl (lv_at hl 2 rfl) ?_
  obtain ⟨v4, hv4, h⟩ := ob h
  refine g_callVi (eC_ok adK adV) C Z (k_X0_caughtOf hv4) lk_X0_55 (by decide) rfl rfl hl (by decide) rfl (Nat.le_of_ble_eq_true rfl) (rest := [.long (v3.toInt64 * 1000000)]) rfl dX0_weightOf_15 (fun H locs Z => ?_)
  refine lv_i2l (v := v4.toInt64) hx hb dX0_weightOf_18 rfl ?_
  refine lv_lsub hx hb dX0_weightOf_19 ?_
  obtain rfl := Option.some.inj h
  exact hR _ _ _ _ Z dX0_weightOf_20
theorem k_X0_weightOf {l : Launch} {kc : Nat → ClassId} {ad : Nat → Nat} {D : va_G} {adK adV : Nat → Nat} {x1 : Int32} {x2 : Int32} {x3 : Int32} {σ : St} {R : Int64} (h : f_X0_weightOf x1 x2 x3 σ = some R) : KC (eC adK adV) tC kc ad D l yX0_weightOf (.code yX0_weightOf cX0_weightOf 4 (some .long)) r_X0_weightOf [.ref (ad 10), .int x1, .int x2, .int x3] (some (.long R)) σ σ := by
  refine g_enter (by decide) (Nat.le_of_ble_eq_true rfl) ?_
  intro p e s m args below meth c A hA C hr hlocks Z ls hl
  have hl : lv_has ls 4 [(0, .ref (ad 10)), (1, .int x1), (2, .int x2), (3, .int x3)] := hl
  exact w_X0_weightOf_0 C (g_RTl C.1.1 C.1.2.1 hr hlocks hA)  Z hl h
def r_X0_placeOf : Room := { frames := 0, cells := 0, slots := 0, locals := 0 }
set_option maxRecDepth 20000 in
theorem w_X0_placeOf_0 {p : Program} {l : Launch} {e : Env} {s : State} {m : MethodId} {args : Array Value} {below : List Frame} {meth : Method} {c : Code} {Q : State → Prop} {D : va_G} {kc : Nat → ClassId} {ad : Nat → Nat} {A : Nat → Prop} {adK adV : Nat → Nat} (C : Cx (eC adK adV) p s m args c cX0_placeOf 3 RX0 D kc A) {R : Int32} {x0 : Int32} {x1 : Int32} {x2 : Int32} {σ : St} (hR : RTi 0 0 p l e r_X0_placeOf s m args below meth c cX0_placeOf tC kc ad D A Q .int R σ) {H : Heap} {locs : List Loc} {ls : Array Slot} (Z : Dy tC kc ad D A s.heap σ H locs) (hl : lv_has ls 3 [(0, .int x0), (1, .int x1), (2, .int x2)]) (h : f_X0_placeOf x0 x1 x2 = R) : W p l e r_X0_placeOf s m args below meth c H locs 0 0 Q (F0 m 0 ls []) := by
  have hx := C.1.1
  have hb := C.1.2.1
  unfold f_X0_placeOf at h
  refine lv_iload_n hx hb dX0_placeOf_0 rfl (lv_at hl 0 rfl) ?_
  refine lv_bipush (v := 13) hx hb dX0_placeOf_1 (by decide) ?_
  refine lv_imul hx hb dX0_placeOf_3 ?_
  refine lv_iload_n hx hb dX0_placeOf_4 rfl (lv_at hl 1 rfl) ?_
  refine lv_iadd hx hb dX0_placeOf_5 ?_
  refine lv_bipush (v := 7) hx hb dX0_placeOf_6 (by decide) ?_
  refine lv_imul hx hb dX0_placeOf_8 ?_
  refine lv_iload_n hx hb dX0_placeOf_9 rfl (lv_at hl 2 rfl) ?_
  refine lv_iadd hx hb dX0_placeOf_10 ?_
  subst h
  exact hR _ _ _ _ _ Z dX0_placeOf_11 rfl
theorem k_X0_placeOf {l : Launch} {kc : Nat → ClassId} {ad : Nat → Nat} {D : va_G} {adK adV : Nat → Nat} (x0 : Int32) (x1 : Int32) (x2 : Int32) (σ : St) : KC (eC adK adV) tC kc ad D l yX0_placeOf (.code yX0_placeOf cX0_placeOf 3 (some .int)) r_X0_placeOf [.int x0, .int x1, .int x2] (some (.int (f_X0_placeOf x0 x1 x2))) σ σ := by
  refine g_enter (by decide) (Nat.le_of_ble_eq_true rfl) ?_
  intro p e s m args below meth c A hA C hr hlocks Z ls hl
  have hl : lv_has ls 3 [(0, .int x0), (1, .int x1), (2, .int x2)] := hl
  exact w_X0_placeOf_0 C (g_RTi C.1.1 C.1.2.1 hr hlocks hA)  Z hl rfl
def r_X0_leastFrom : Room := { frames := 1, cells := 0, slots := 0, locals := 22 }
set_option maxRecDepth 20000 in
theorem w_X0_leastFrom_0 {p : Program} {l : Launch} {e : Env} {s : State} {m : MethodId} {args : Array Value} {below : List Frame} {meth : Method} {c : Code} {Q : State → Prop} {D : va_G} {kc : Nat → ClassId} {ad : Nat → Nat} {A : Nat → Prop} {adK adV : Nat → Nat} (C : Cx (eC adK adV) p s m args c cX0_leastFrom 5 RX0 D kc A) {R : Int64} {x1 : Int32} {x2 : Int32} {x3 : Int32} {σ : St} (hR : RTl 0 0 p l e r_X0_leastFrom s m args below meth c cX0_leastFrom tC kc ad D A Q R σ) {H : Heap} {locs : List Loc} {ls : Array Slot} (Z : Dy tC kc ad D A s.heap σ H locs) (hl : lv_has ls 5 [(0, .ref (ad 10)), (1, .int x1), (2, .int x2), (3, .int x3)]) (h : f_X0_leastFrom x1 x2 x3 σ = some R) : W p l e r_X0_leastFrom s m args below meth c H locs 0 0 Q (F0 m 0 ls []) := by
  have hx := C.1.1
  have hb := C.1.2.1
  unfold f_X0_leastFrom at h
  refine lv_iload_n hx hb dX0_leastFrom_0 rfl (lv_at hl 1 rfl) ?_
  refine lv_iload_n hx hb dX0_leastFrom_1 rfl (lv_at hl 2 rfl) ?_
  refine lv_iload_n hx hb dX0_leastFrom_2 rfl (lv_at hl 3 rfl) ?_
  refine g_callSi (eC_ok adK adV) C Z (k_X0_placeOf x1 x2 x3 σ) lk_X0_58 hl (by decide) rfl (Nat.le_of_ble_eq_true rfl) (rest := []) rfl dX0_leastFrom_3 (fun H locs Z => ?_)
  obtain ⟨v5, ev5, h⟩ := lb h
  refine tn_i ev5 ?_
  refine lv_istore (lv' := [(4, .int v5), (0, .ref (ad 10)), (1, .int x1), (2, .int x2), (3, .int x3)]) hx hb dX0_leastFrom_6 hl (by decide) rfl (fun ls hl => ?_)
  refine lv_iload hx hb dX0_leastFrom_8 (lv_at hl 0 rfl) ?_
  refine lv_iconst (v := 0) hx hb dX0_leastFrom_10 (by decide) ?_
  refine lv_aload_n hx hb dX0_leastFrom_11 rfl (lv_at hl 1 rfl) ?_
  refine rg_X0_21 C Z dX0_leastFrom_12 ?_
  refine g_len C Z iaC68 (by decide) (v := 637) rfl dX0_leastFrom_15 ?_
  refine lv_iconst (v := 1) hx hb dX0_leastFrom_16 (by decide) ?_
  refine lv_isub hx hb dX0_leastFrom_17 ?_
  refine g_callNi (eC_ok adK adV) C Z (k_X10_lies v5 0 (637 - 1) σ) (C.2.2.2.1 _ nw_X0_39) lkn_X10_lies hl (by decide) rfl (Nat.le_of_ble_eq_true rfl) (rest := []) rfl dX0_leastFrom_18 (fun H locs Z => ?_)
  refine lv_if_eq (tgt := 34) hx hb dX0_leastFrom_21 (by decide) (fun c21 => ?_) (fun c21 => ?_)
  · have h := ip h c21
    refine lv_ldc2 (v := 1000000000000) hx hb C.1.2.2.2.1 (C.1.2.2.2.2 _ wDL_X0_61) dX0_leastFrom_34 ?_
    obtain rfl := Option.some.inj h
    exact hR _ _ _ _ Z dX0_leastFrom_37
  · have h := im h c21
    refine lv_aload_n hx hb dX0_leastFrom_24 rfl (lv_at hl 1 rfl) ?_
    refine rg_X0_21 C Z dX0_leastFrom_25 ?_
    refine lv_iload hx hb dX0_leastFrom_28 (lv_at hl 0 rfl) ?_
    obtain ⟨v6, hv6, h⟩ := ob h
    refine g_lald C Z iaC68 hv6 dX0_leastFrom_30 ?_
    refine lv_goto (tgt := 37) hx hb dX0_leastFrom_31 (by decide) ?_
    obtain rfl := Option.some.inj h
    exact hR _ _ _ _ Z dX0_leastFrom_37
theorem k_X0_leastFrom {l : Launch} {kc : Nat → ClassId} {ad : Nat → Nat} {D : va_G} {adK adV : Nat → Nat} {x1 : Int32} {x2 : Int32} {x3 : Int32} {σ : St} {R : Int64} (h : f_X0_leastFrom x1 x2 x3 σ = some R) : KC (eC adK adV) tC kc ad D l yX0_leastFrom (.code yX0_leastFrom cX0_leastFrom 5 (some .long)) r_X0_leastFrom [.ref (ad 10), .int x1, .int x2, .int x3] (some (.long R)) σ σ := by
  refine g_enter (by decide) (Nat.le_of_ble_eq_true rfl) ?_
  intro p e s m args below meth c A hA C hr hlocks Z ls hl
  have hl : lv_has ls 5 [(0, .ref (ad 10)), (1, .int x1), (2, .int x2), (3, .int x3)] := hl
  exact w_X0_leastFrom_0 C (g_RTl C.1.1 C.1.2.1 hr hlocks hA)  Z hl h
def r_J7_fill_d0a16 : Room := { frames := 0, cells := 0, slots := 0, locals := 0 }
set_option maxRecDepth 20000 in
theorem w_J7_fill_d0a16_6 {p : Program} {l : Launch} {e : Env} {s : State} {m : MethodId} {args : Array Value} {below : List Frame} {meth : Method} {c : Code} {Q : State → Prop} {D : va_G} {kc : Nat → ClassId} {ad : Nat → Nat} {A : Nat → Prop} {adK adV : Nat → Nat} (C : Cx (eC adK adV) p s m args c cJ7_fill_d0a16 5 RJ7 D kc A) {R : St} {a0 : Nat} {x1 : Int64} {x4 : Int32} (hR : RTv 0 0 p l e r_J7_fill_d0a16 s m args below meth c cJ7_fill_d0a16 tC kc ad D A Q R) (ha0 : isArr tC 1 a0) : ∀ (n : Nat) (x3 : Int32) (σ : St) (H : Heap) (locs : List Loc) (ls : Array Slot), Dy tC kc ad D A s.heap σ H locs → lv_has ls 5 [(0, .ref (ad a0)), (1, .long x1), (3, .int x3), (4, .int x4)] → f_J7_fill_d0a16_6 a0 x1 x4 n x3 σ = some R → W p l e r_J7_fill_d0a16 s m args below meth c H locs 0 0 Q (F0 m 6 ls []) := by
  have hx := C.1.1
  have hb := C.1.2.1
  intro n
  induction n with
  | zero =>
    intro x3 σ H locs ls Z hl h
    exact absurd (show none = some R from h) (by simp)
  | succ n ih =>
    intro x3 σ H locs ls Z hl h
    rw [f_J7_fill_d0a16_6] at h
    refine lv_iload_n hx hb dJ7_fill_d0a16_6 rfl (lv_at hl 2 rfl) ?_
    refine lv_iload hx hb dJ7_fill_d0a16_7 (lv_at hl 3 rfl) ?_
    refine lv_icmp_ge (tgt := 22) hx hb dJ7_fill_d0a16_9 (by decide) (fun c9 => ?_) (fun c9 => ?_)
    · have h := ip h c9
      obtain rfl := Option.some.inj h
      exact hR _ _ _ _ Z dJ7_fill_d0a16_22
    · have h := im h c9
      refine lv_aload_n hx hb dJ7_fill_d0a16_12 rfl (lv_at hl 0 rfl) ?_
      refine lv_iload_n hx hb dJ7_fill_d0a16_13 rfl (lv_at hl 2 rfl) ?_
      refine lv_lload_n hx hb dJ7_fill_d0a16_14 rfl (lv_at hl 1 rfl) ?_
      obtain ⟨σ8, hσ8, h⟩ := ob h
      refine g_last C Z ha0 hσ8 dJ7_fill_d0a16_15 (fun H locs Z => ?_)
      obtain ⟨v9, ev9, h⟩ := lb h
      refine lv_iinc (v := v9) (lv' := [(3, .int v9), (0, .ref (ad a0)), (1, .long x1), (4, .int x4)]) hx hb dJ7_fill_d0a16_16 hl (k := 2) rfl (by rw [ev9]; rfl) (by decide) rfl (fun ls hl => ?_)
      refine lv_goto (tgt := 6) hx hb dJ7_fill_d0a16_19 (by decide) ?_
      exact ih _ _ _ _ _ Z (lv_sub hl [1, 2, 0, 3] rfl) h
set_option maxRecDepth 20000 in
theorem w_J7_fill_d0a16_0 {p : Program} {l : Launch} {e : Env} {s : State} {m : MethodId} {args : Array Value} {below : List Frame} {meth : Method} {c : Code} {Q : State → Prop} {D : va_G} {kc : Nat → ClassId} {ad : Nat → Nat} {A : Nat → Prop} {adK adV : Nat → Nat} (C : Cx (eC adK adV) p s m args c cJ7_fill_d0a16 5 RJ7 D kc A) {R : St} {a0 : Nat} {x1 : Int64} {σ : St} (hR : RTv 0 0 p l e r_J7_fill_d0a16 s m args below meth c cJ7_fill_d0a16 tC kc ad D A Q R) (ha0 : isArr tC 1 a0) {H : Heap} {locs : List Loc} {ls : Array Slot} (Z : Dy tC kc ad D A s.heap σ H locs) (hl : lv_has ls 5 [(0, .ref (ad a0)), (1, .long x1)]) (h : f_J7_fill_d0a16 a0 x1 σ = some R) : W p l e r_J7_fill_d0a16 s m args below meth c H locs 0 0 Q (F0 m 0 ls []) := by
  have hx := C.1.1
  have hb := C.1.2.1
  unfold f_J7_fill_d0a16 at h
  refine lv_iconst (v := 0) hx hb dJ7_fill_d0a16_0 (by decide) ?_
  refine lv_istore_n (lv' := [(3, .int 0), (0, .ref (ad a0)), (1, .long x1)]) hx hb dJ7_fill_d0a16_1 rfl hl (by decide) rfl (fun ls hl => ?_)
  refine lv_aload_n hx hb dJ7_fill_d0a16_2 rfl (lv_at hl 1 rfl) ?_
  refine g_len C Z ha0 (by decide) (v := lenI tC σ a0) rfl dJ7_fill_d0a16_3 ?_
  obtain ⟨v7, ev7, h⟩ := lb h
  refine tn_i ev7 ?_
  refine lv_istore (lv' := [(4, .int v7), (3, .int 0), (0, .ref (ad a0)), (1, .long x1)]) hx hb dJ7_fill_d0a16_4 hl (by decide) rfl (fun ls hl => ?_)
  exact w_J7_fill_d0a16_6 C hR ha0 _ _ _ _ _ _ Z (lv_sub hl [2, 3, 1, 0] rfl) h
theorem k_J7_fill_d0a16 {l : Launch} {kc : Nat → ClassId} {ad : Nat → Nat} {D : va_G} {adK adV : Nat → Nat} {a0 : Nat} (ha0 : isArr tC 1 a0) {x1 : Int64} {σ : St} {R : St} (h : f_J7_fill_d0a16 a0 x1 σ = some R) : KC (eC adK adV) tC kc ad D l yJ7_fill_d0a16 (.code yJ7_fill_d0a16 cJ7_fill_d0a16 5 none) r_J7_fill_d0a16 [.ref (ad a0), .long x1] none σ R := by
  refine g_enter (by decide) (Nat.le_of_ble_eq_true rfl) ?_
  intro p e s m args below meth c A hA C hr hlocks Z ls hl
  have hl : lv_has ls 5 [(0, .ref (ad a0)), (1, .long x1)] := hl
  exact w_J7_fill_d0a16_0 C (g_RTv C.1.1 C.1.2.1 hr hlocks hA) ha0 Z hl h
def r_X0_weigh : Room := { frames := 3, cells := 0, slots := 0, locals := 71 }
set_option maxRecDepth 20000 in
theorem w_X0_weigh_68 {p : Program} {l : Launch} {e : Env} {s : State} {m : MethodId} {args : Array Value} {below : List Frame} {meth : Method} {c : Code} {Q : State → Prop} {D : va_G} {kc : Nat → ClassId} {ad : Nat → Nat} {A : Nat → Prop} {adK adV : Nat → Nat} (C : Cx (eC adK adV) p s m args c cX0_weigh 10 RX0 D kc A) {R : Int64} {x1 : Int32} {x2 : Int32} {x3 : Int32} {x4 : Int64} {x6 : Int32} {x7 : Int32} {σ : St} (hR : RTl 0 0 p l e r_X0_weigh s m args below meth c cX0_weigh tC kc ad D A Q R σ) {k17 : Int64 → Int32 → Option (Int64)} {k8 : Int64 → Int32 → Option (Int64)} (hk17 : ∀ (x4 : Int64) (x7 : Int32) (H : Heap) (locs : List Loc) (ls : Array Slot), Dy tC kc ad D A s.heap σ H locs → lv_has ls 10 [(0, .ref (ad 10)), (1, .int x1), (2, .int x2), (3, .int x3), (4, .long x4), (6, .int x6), (7, .int x7)] → k17 x4 x7 = some R → W p l e r_X0_weigh s m args below meth c H locs 0 0 Q (F0 m 17 ls [])) (hk8 : ∀ (x4 : Int64) (x6 : Int32) (H : Heap) (locs : List Loc) (ls : Array Slot), Dy tC kc ad D A s.heap σ H locs → lv_has ls 10 [(0, .ref (ad 10)), (1, .int x1), (2, .int x2), (3, .int x3), (4, .long x4), (6, .int x6)] → k8 x4 x6 = some R → W p l e r_X0_weigh s m args below meth c H locs 0 0 Q (F0 m 8 ls [])) {H : Heap} {locs : List Loc} {ls : Array Slot} (Z : Dy tC kc ad D A s.heap σ H locs) (hl : lv_has ls 10 [(0, .ref (ad 10)), (1, .int x1), (2, .int x2), (3, .int x3), (4, .long x4), (6, .int x6), (7, .int x7)]) (h : f_X0_weigh_68 x1 x2 x3 x4 x6 x7 σ k17 k8 = some R) : W p l e r_X0_weigh s m args below meth c H locs 0 0 Q (F0 m 68 ls []) := by
  have hx := C.1.1
  have hb := C.1.2.1
  unfold f_X0_weigh_68 at h
  obtain ⟨v14, ev14, h⟩ := lb h
  refine lv_iinc (v := v14) (lv' := [(7, .int v14), (0, .ref (ad 10)), (1, .int x1), (2, .int x2), (3, .int x3), (4, .long x4), (6, .int x6)]) hx hb dX0_weigh_68 hl (k := 6) rfl (by rw [ev14]; rfl) (by decide) rfl (fun ls hl => ?_)
  refine lv_goto (tgt := 17) hx hb dX0_weigh_71 (by decide) ?_
  exact hk17 _ _ _ _ _ Z (lv_sub hl [1, 2, 3, 4, 5, 6, 0] rfl) h
set_option maxRecDepth 20000 in
theorem w_X0_weigh_74 {p : Program} {l : Launch} {e : Env} {s : State} {m : MethodId} {args : Array Value} {below : List Frame} {meth : Method} {c : Code} {Q : State → Prop} {D : va_G} {kc : Nat → ClassId} {ad : Nat → Nat} {A : Nat → Prop} {adK adV : Nat → Nat} (C : Cx (eC adK adV) p s m args c cX0_weigh 10 RX0 D kc A) {R : Int64} {x1 : Int32} {x2 : Int32} {x3 : Int32} {x4 : Int64} {x6 : Int32} {σ : St} (hR : RTl 0 0 p l e r_X0_weigh s m args below meth c cX0_weigh tC kc ad D A Q R σ) {k8 : Int64 → Int32 → Option (Int64)} (hk8 : ∀ (x4 : Int64) (x6 : Int32) (H : Heap) (locs : List Loc) (ls : Array Slot), Dy tC kc ad D A s.heap σ H locs → lv_has ls 10 [(0, .ref (ad 10)), (1, .int x1), (2, .int x2), (3, .int x3), (4, .long x4), (6, .int x6)] → k8 x4 x6 = some R → W p l e r_X0_weigh s m args below meth c H locs 0 0 Q (F0 m 8 ls [])) {H : Heap} {locs : List Loc} {ls : Array Slot} (Z : Dy tC kc ad D A s.heap σ H locs) (hl : lv_has ls 10 [(0, .ref (ad 10)), (1, .int x1), (2, .int x2), (3, .int x3), (4, .long x4), (6, .int x6)]) (h : f_X0_weigh_74 x1 x2 x3 x4 x6 σ k8 = some R) : W p l e r_X0_weigh s m args below meth c H locs 0 0 Q (F0 m 74 ls []) := by
  have hx := C.1.1
  have hb := C.1.2.1
  unfold f_X0_weigh_74 at h
  obtain ⟨v15, ev15, h⟩ := lb h
  refine lv_iinc (v := v15) (lv' := [(6, .int v15), (0, .ref (ad 10)), (1, .int x1), (2, .int x2), (3, .int x3), (4, .long x4)]) hx hb dX0_weigh_74 hl (k := 5) rfl (by rw [ev15]; rfl) (by decide) rfl (fun ls hl => ?_)
  refine lv_goto (tgt := 8) hx hb dX0_weigh_77 (by decide) ?_
  exact hk8 _ _ _ _ _ Z (lv_sub hl [1, 2, 3, 4, 5, 0] rfl) h
set_option maxRecDepth 20000 in
theorem w_X0_weigh_17 {p : Program} {l : Launch} {e : Env} {s : State} {m : MethodId} {args : Array Value} {below : List Frame} {meth : Method} {c : Code} {Q : State → Prop} {D : va_G} {kc : Nat → ClassId} {ad : Nat → Nat} {A : Nat → Prop} {adK adV : Nat → Nat} (C : Cx (eC adK adV) p s m args c cX0_weigh 10 RX0 D kc A) {R : Int64} {x1 : Int32} {x2 : Int32} {x3 : Int32} {x6 : Int32} {σ : St} (hR : RTl 0 0 p l e r_X0_weigh s m args below meth c cX0_weigh tC kc ad D A Q R σ) {k8 : Int64 → Int32 → Option (Int64)} (hk8 : ∀ (x4 : Int64) (x6 : Int32) (H : Heap) (locs : List Loc) (ls : Array Slot), Dy tC kc ad D A s.heap σ H locs → lv_has ls 10 [(0, .ref (ad 10)), (1, .int x1), (2, .int x2), (3, .int x3), (4, .long x4), (6, .int x6)] → k8 x4 x6 = some R → W p l e r_X0_weigh s m args below meth c H locs 0 0 Q (F0 m 8 ls [])) : ∀ (n : Nat) (x4 : Int64) (x7 : Int32) (H : Heap) (locs : List Loc) (ls : Array Slot), Dy tC kc ad D A s.heap σ H locs → lv_has ls 10 [(0, .ref (ad 10)), (1, .int x1), (2, .int x2), (3, .int x3), (4, .long x4), (6, .int x6), (7, .int x7)] → f_X0_weigh_17 x1 x2 x3 x6 σ k8 n x4 x7 = some R → W p l e r_X0_weigh s m args below meth c H locs 0 0 Q (F0 m 17 ls []) := by
  have hx := C.1.1
  have hb := C.1.2.1
  intro n
  induction n with
  | zero =>
    intro x4 x7 H locs ls Z hl h
    exact absurd (show none = some R from h) (by simp)
  | succ n ih =>
    intro x4 x7 H locs ls Z hl h
    rw [f_X0_weigh_17] at h
    refine lv_iload hx hb dX0_weigh_17 (lv_at hl 6 rfl) ?_
    refine lv_iload_n hx hb dX0_weigh_19 rfl (lv_at hl 3 rfl) ?_
    refine lv_icmp_gt (tgt := 74) hx hb dX0_weigh_20 (by decide) (fun c20 => ?_) (fun c20 => ?_)
    · have h := ip h c20
      exact w_X0_weigh_74 C hR hk8 Z (lv_sub hl [0, 1, 2, 3, 4, 5] rfl) h
    · have h := im h c20
      refine lv_aload_n hx hb dX0_weigh_23 rfl (lv_at hl 0 rfl) ?_
      refine lv_iload_n hx hb dX0_weigh_24 rfl (lv_at hl 1 rfl) ?_
      refine lv_iconst (v := 1) hx hb dX0_weigh_25 (by decide) ?_
      refine lv_iadd hx hb dX0_weigh_26 ?_
      refine lv_iload_n hx hb dX0_weigh_27 rfl (lv_at hl 2 rfl) ?_
      refine lv_iload hx hb dX0_weigh_28 (lv_at hl 5 rfl) ?_
      refine lv_isub hx hb dX0_weigh_30 ?_
      refine lv_iload_n hx hb dX0_weigh_31 rfl (lv_at hl 3 rfl) ?_
      refine lv_iload hx hb dX0_weigh_32 (lv_at hl 6 rfl) ?_
      refine lv_isub hx hb dX0_weigh_34 ?_
      obtain ⟨v11, hv11, h⟩ := ob h
      refine g_callVl (eC_ok adK adV) C Z (k_X0_leastFrom hv11) lk_X0_80 (by decide) rfl rfl hl (by decide) rfl (Nat.le_of_ble_eq_true rfl) (rest := []) rfl dX0_weigh_35 (fun H locs Z => ?_)
      refine lv_lstore (lv' := [(8, .long v11), (0, .ref (ad 10)), (1, .int x1), (2, .int x2), (3, .int x3), (4, .long x4), (6, .int x6), (7, .int x7)]) hx hb dX0_weigh_38 hl (by decide) rfl (fun ls hl => ?_)
      refine lv_lload hx hb dX0_weigh_40 (lv_at hl 0 rfl) ?_
      refine lv_ldc2 (v := 1000000000000) hx hb C.1.2.2.2.1 (C.1.2.2.2.2 _ wDL_X0_61) dX0_weigh_42 ?_
      refine g_lge (tgt := 68) hx hb dX0_weigh_45 dX0_weigh_46 (by decide) (fun c46 => ?_) (fun c46 => ?_)
      · have h := ip h c46
        exact w_X0_weigh_68 C hR ih hk8 Z (lv_sub hl [1, 2, 3, 4, 5, 6, 7] rfl) h
      · have h := im h c46
        refine lv_lload hx hb dX0_weigh_49 (lv_at hl 5 rfl) ?_
        refine lv_lload hx hb dX0_weigh_51 (lv_at hl 0 rfl) ?_
        refine lv_aload_n hx hb dX0_weigh_53 rfl (lv_at hl 1 rfl) ?_
        refine lv_iload_n hx hb dX0_weigh_54 rfl (lv_at hl 2 rfl) ?_
        refine lv_iload hx hb dX0_weigh_55 (lv_at hl 6 rfl) ?_
        refine lv_iload hx hb dX0_weigh_57 (lv_at hl 7 rfl) ?_
        obtain ⟨v12, hv12, h⟩ := ob h
        refine g_callVl (eC_ok adK adV) C Z (k_X0_weightOf hv12) lk_X0_83 (by decide) rfl rfl hl (by decide) rfl (Nat.le_of_ble_eq_true rfl) (rest := [.long v11, .long x4]) rfl dX0_weigh_59 (fun H locs Z => ?_)
        refine lv_ladd hx hb dX0_weigh_62 ?_
        refine g_min_f86c9 C hl wM_X0_86 (by decide) (rest := []) (Nat.le_of_ble_eq_true rfl) dX0_weigh_63 ?_
        obtain ⟨v13, ev13, h⟩ := lb h
        refine tn_l ev13 ?_
        refine lv_lstore (lv' := [(4, .long v13), (8, .long v11), (0, .ref (ad 10)), (1, .int x1), (2, .int x2), (3, .int x3), (6, .int x6), (7, .int x7)]) hx hb dX0_weigh_66 hl (by decide) rfl (fun ls hl => ?_)
        exact w_X0_weigh_68 C hR ih hk8 Z (lv_sub hl [2, 3, 4, 5, 0, 6, 7] rfl) h
set_option maxRecDepth 20000 in
theorem w_X0_weigh_8 {p : Program} {l : Launch} {e : Env} {s : State} {m : MethodId} {args : Array Value} {below : List Frame} {meth : Method} {c : Code} {Q : State → Prop} {D : va_G} {kc : Nat → ClassId} {ad : Nat → Nat} {A : Nat → Prop} {adK adV : Nat → Nat} (C : Cx (eC adK adV) p s m args c cX0_weigh 10 RX0 D kc A) {R : Int64} {x1 : Int32} {x2 : Int32} {x3 : Int32} {σ : St} (hR : RTl 0 0 p l e r_X0_weigh s m args below meth c cX0_weigh tC kc ad D A Q R σ) : ∀ (n : Nat) (x4 : Int64) (x6 : Int32) (H : Heap) (locs : List Loc) (ls : Array Slot), Dy tC kc ad D A s.heap σ H locs → lv_has ls 10 [(0, .ref (ad 10)), (1, .int x1), (2, .int x2), (3, .int x3), (4, .long x4), (6, .int x6)] → f_X0_weigh_8 x1 x2 x3 σ n x4 x6 = some R → W p l e r_X0_weigh s m args below meth c H locs 0 0 Q (F0 m 8 ls []) := by
  have hx := C.1.1
  have hb := C.1.2.1
  intro n
  induction n with
  | zero =>
    intro x4 x6 H locs ls Z hl h
    exact absurd (show none = some R from h) (by simp)
  | succ n ih =>
    intro x4 x6 H locs ls Z hl h
    rw [f_X0_weigh_8] at h
    refine lv_iload hx hb dX0_weigh_8 (lv_at hl 5 rfl) ?_
    refine lv_iload_n hx hb dX0_weigh_10 rfl (lv_at hl 2 rfl) ?_
    refine lv_icmp_gt (tgt := 80) hx hb dX0_weigh_11 (by decide) (fun c11 => ?_) (fun c11 => ?_)
    · have h := ip h c11
      refine lv_lload hx hb dX0_weigh_80 (lv_at hl 4 rfl) ?_
      obtain rfl := Option.some.inj h
      exact hR _ _ _ _ Z dX0_weigh_82
    · have h := im h c11
      refine lv_iconst (v := 0) hx hb dX0_weigh_14 (by decide) ?_
      refine lv_istore (lv' := [(7, .int 0), (0, .ref (ad 10)), (1, .int x1), (2, .int x2), (3, .int x3), (4, .long x4), (6, .int x6)]) hx hb dX0_weigh_15 hl (by decide) rfl (fun ls hl => ?_)
      exact w_X0_weigh_17 C hR ih _ _ _ _ _ _ Z (lv_sub hl [1, 2, 3, 4, 5, 6, 0] rfl) h
set_option maxRecDepth 20000 in
theorem w_X0_weigh_0 {p : Program} {l : Launch} {e : Env} {s : State} {m : MethodId} {args : Array Value} {below : List Frame} {meth : Method} {c : Code} {Q : State → Prop} {D : va_G} {kc : Nat → ClassId} {ad : Nat → Nat} {A : Nat → Prop} {adK adV : Nat → Nat} (C : Cx (eC adK adV) p s m args c cX0_weigh 10 RX0 D kc A) {R : Int64} {x1 : Int32} {x2 : Int32} {x3 : Int32} {σ : St} (hR : RTl 0 0 p l e r_X0_weigh s m args below meth c cX0_weigh tC kc ad D A Q R σ) {H : Heap} {locs : List Loc} {ls : Array Slot} (Z : Dy tC kc ad D A s.heap σ H locs) (hl : lv_has ls 10 [(0, .ref (ad 10)), (1, .int x1), (2, .int x2), (3, .int x3)]) (h : f_X0_weigh x1 x2 x3 σ = some R) : W p l e r_X0_weigh s m args below meth c H locs 0 0 Q (F0 m 0 ls []) := by
  have hx := C.1.1
  have hb := C.1.2.1
  unfold f_X0_weigh at h
  refine lv_ldc2 (v := 1000000000000) hx hb C.1.2.2.2.1 (C.1.2.2.2.2 _ wDL_X0_61) dX0_weigh_0 ?_
  refine lv_lstore (lv' := [(4, .long 1000000000000), (0, .ref (ad 10)), (1, .int x1), (2, .int x2), (3, .int x3)]) hx hb dX0_weigh_3 hl (by decide) rfl (fun ls hl => ?_)
  refine lv_iconst (v := 0) hx hb dX0_weigh_5 (by decide) ?_
  refine lv_istore (lv' := [(6, .int 0), (4, .long 1000000000000), (0, .ref (ad 10)), (1, .int x1), (2, .int x2), (3, .int x3)]) hx hb dX0_weigh_6 hl (by decide) rfl (fun ls hl => ?_)
  exact w_X0_weigh_8 C hR _ _ _ _ _ _ Z (lv_sub hl [2, 3, 4, 5, 1, 0] rfl) h
theorem k_X0_weigh {l : Launch} {kc : Nat → ClassId} {ad : Nat → Nat} {D : va_G} {adK adV : Nat → Nat} {x1 : Int32} {x2 : Int32} {x3 : Int32} {σ : St} {R : Int64} (h : f_X0_weigh x1 x2 x3 σ = some R) : KC (eC adK adV) tC kc ad D l yX0_weigh (.code yX0_weigh cX0_weigh 10 (some .long)) r_X0_weigh [.ref (ad 10), .int x1, .int x2, .int x3] (some (.long R)) σ σ := by
  refine g_enter (by decide) (Nat.le_of_ble_eq_true rfl) ?_
  intro p e s m args below meth c A hA C hr hlocks Z ls hl
  have hl : lv_has ls 10 [(0, .ref (ad 10)), (1, .int x1), (2, .int x2), (3, .int x3)] := hl
  exact w_X0_weigh_0 C (g_RTl C.1.1 C.1.2.1 hr hlocks hA)  Z hl h
def r_X0_weighFrom : Room := { frames := 4, cells := 0, slots := 0, locals := 100 }
set_option maxRecDepth 20000 in
theorem w_X0_weighFrom_60 {p : Program} {l : Launch} {e : Env} {s : State} {m : MethodId} {args : Array Value} {below : List Frame} {meth : Method} {c : Code} {Q : State → Prop} {D : va_G} {kc : Nat → ClassId} {ad : Nat → Nat} {A : Nat → Prop} {adK adV : Nat → Nat} (C : Cx (eC adK adV) p s m args c cX0_weighFrom 6 RX0 D kc A) {R : St} {x1 : Int32} {x2 : Int32} {x3 : Int32} {x4 : Int32} {σ : St} (hR : RTv 0 0 p l e r_X0_weighFrom s m args below meth c cX0_weighFrom tC kc ad D A Q R) {k3 : Int32 → St → Option (St)} (hk3 : ∀ (x4 : Int32) (σ : St) (H : Heap) (locs : List Loc) (ls : Array Slot), Dy tC kc ad D A s.heap σ H locs → lv_has ls 6 [(0, .ref (ad 10)), (1, .int x1), (2, .int x2), (3, .int x3), (4, .int x4)] → k3 x4 σ = some R → W p l e r_X0_weighFrom s m args below meth c H locs 0 0 Q (F0 m 3 ls [])) {H : Heap} {locs : List Loc} {ls : Array Slot} (Z : Dy tC kc ad D A s.heap σ H locs) (hl : lv_has ls 6 [(0, .ref (ad 10)), (1, .int x1), (2, .int x2), (3, .int x3), (4, .int x4)]) (h : f_X0_weighFrom_60 x1 x2 x3 x4 σ k3 = some R) : W p l e r_X0_weighFrom s m args below meth c H locs 0 0 Q (F0 m 60 ls []) := by
  have hx := C.1.1
  have hb := C.1.2.1
  unfold f_X0_weighFrom_60 at h
  obtain ⟨v12, ev12, h⟩ := lb h
  refine lv_iinc (v := v12) (lv' := [(4, .int v12), (0, .ref (ad 10)), (1, .int x1), (2, .int x2), (3, .int x3)]) hx hb dX0_weighFrom_60 hl (k := 4) rfl (by rw [ev12]; rfl) (by decide) rfl (fun ls hl => ?_)
  refine lv_goto (tgt := 3) hx hb dX0_weighFrom_63 (by decide) ?_
  exact hk3 _ _ _ _ _ Z (lv_sub hl [1, 2, 3, 4, 0] rfl) h
set_option maxRecDepth 20000 in
theorem w_X0_weighFrom_19 {p : Program} {l : Launch} {e : Env} {s : State} {m : MethodId} {args : Array Value} {below : List Frame} {meth : Method} {c : Code} {Q : State → Prop} {D : va_G} {kc : Nat → ClassId} {ad : Nat → Nat} {A : Nat → Prop} {adK adV : Nat → Nat} (C : Cx (eC adK adV) p s m args c cX0_weighFrom 6 RX0 D kc A) {R : St} {x1 : Int32} {x2 : Int32} {x3 : Int32} {x4 : Int32} (hR : RTv 0 0 p l e r_X0_weighFrom s m args below meth c cX0_weighFrom tC kc ad D A Q R) {k3 : Int32 → St → Option (St)} (hk3 : ∀ (x4 : Int32) (σ : St) (H : Heap) (locs : List Loc) (ls : Array Slot), Dy tC kc ad D A s.heap σ H locs → lv_has ls 6 [(0, .ref (ad 10)), (1, .int x1), (2, .int x2), (3, .int x3), (4, .int x4)] → k3 x4 σ = some R → W p l e r_X0_weighFrom s m args below meth c H locs 0 0 Q (F0 m 3 ls [])) : ∀ (n : Nat) (x5 : Int32) (σ : St) (H : Heap) (locs : List Loc) (ls : Array Slot), Dy tC kc ad D A s.heap σ H locs → lv_has ls 6 [(0, .ref (ad 10)), (1, .int x1), (2, .int x2), (3, .int x3), (4, .int x4), (5, .int x5)] → f_X0_weighFrom_19 x1 x2 x3 x4 k3 n x5 σ = some R → W p l e r_X0_weighFrom s m args below meth c H locs 0 0 Q (F0 m 19 ls []) := by
  have hx := C.1.1
  have hb := C.1.2.1
  intro n
  induction n with
  | zero =>
    intro x5 σ H locs ls Z hl h
    exact absurd (show none = some R from h) (by simp)
  | succ n ih =>
    intro x5 σ H locs ls Z hl h
    rw [f_X0_weighFrom_19] at h
    refine lv_iload hx hb dX0_weighFrom_19 (lv_at hl 5 rfl) ?_
    refine lv_iload_n hx hb dX0_weighFrom_21 rfl (lv_at hl 3 rfl) ?_
    refine lv_icmp_gt (tgt := 60) hx hb dX0_weighFrom_22 (by decide) (fun c22 => ?_) (fun c22 => ?_)
    · have h := ip h c22
      exact w_X0_weighFrom_60 C hR hk3 Z (lv_sub hl [0, 1, 2, 3, 4] rfl) h
    · have h := im h c22
      refine lv_iload hx hb dX0_weighFrom_25 (lv_at hl 5 rfl) ?_
      refine lv_bipush (v := 6) hx hb dX0_weighFrom_27 (by decide) ?_
      refine lv_icmp_gt (tgt := 60) hx hb dX0_weighFrom_29 (by decide) (fun c29 => ?_) (fun c29 => ?_)
      · have h := ip h c29
        exact w_X0_weighFrom_60 C hR hk3 Z (lv_sub hl [0, 1, 2, 3, 4] rfl) h
      · have h := im h c29
        refine lv_aload_n hx hb dX0_weighFrom_32 rfl (lv_at hl 0 rfl) ?_
        refine rg_X0_21 C Z dX0_weighFrom_33 ?_
        refine lv_iload_n hx hb dX0_weighFrom_36 rfl (lv_at hl 1 rfl) ?_
        refine lv_iload hx hb dX0_weighFrom_37 (lv_at hl 4 rfl) ?_
        refine lv_iload hx hb dX0_weighFrom_39 (lv_at hl 5 rfl) ?_
        refine g_callSi (eC_ok adK adV) C Z (k_X0_placeOf x1 x4 x5 σ) lk_X0_58 hl (by decide) rfl (Nat.le_of_ble_eq_true rfl) (rest := [.ref (ad 68)]) rfl dX0_weighFrom_41 (fun H locs Z => ?_)
        refine lv_aload_n hx hb dX0_weighFrom_44 rfl (lv_at hl 0 rfl) ?_
        refine lv_iload_n hx hb dX0_weighFrom_45 rfl (lv_at hl 1 rfl) ?_
        refine lv_iload hx hb dX0_weighFrom_46 (lv_at hl 4 rfl) ?_
        refine lv_iload hx hb dX0_weighFrom_48 (lv_at hl 5 rfl) ?_
        obtain ⟨v9, hv9, h⟩ := ob h
        refine g_callVl (eC_ok adK adV) C Z (k_X0_weigh hv9) lk_X0_76 (by decide) rfl rfl hl (by decide) rfl (Nat.le_of_ble_eq_true rfl) (rest := [.int (f_X0_placeOf x1 x4 x5), .ref (ad 68)]) rfl dX0_weighFrom_50 (fun H locs Z => ?_)
        obtain ⟨σ10, hσ10, h⟩ := ob h
        refine g_last C Z iaC68 hσ10 dX0_weighFrom_53 (fun H locs Z => ?_)
        obtain ⟨v11, ev11, h⟩ := lb h
        refine lv_iinc (v := v11) (lv' := [(5, .int v11), (0, .ref (ad 10)), (1, .int x1), (2, .int x2), (3, .int x3), (4, .int x4)]) hx hb dX0_weighFrom_54 hl (k := 5) rfl (by rw [ev11]; rfl) (by decide) rfl (fun ls hl => ?_)
        refine lv_goto (tgt := 19) hx hb dX0_weighFrom_57 (by decide) ?_
        exact ih _ _ _ _ _ Z (lv_sub hl [1, 2, 3, 4, 5, 0] rfl) h
set_option maxRecDepth 20000 in
theorem w_X0_weighFrom_3 {p : Program} {l : Launch} {e : Env} {s : State} {m : MethodId} {args : Array Value} {below : List Frame} {meth : Method} {c : Code} {Q : State → Prop} {D : va_G} {kc : Nat → ClassId} {ad : Nat → Nat} {A : Nat → Prop} {adK adV : Nat → Nat} (C : Cx (eC adK adV) p s m args c cX0_weighFrom 6 RX0 D kc A) {R : St} {x1 : Int32} {x2 : Int32} {x3 : Int32} (hR : RTv 0 0 p l e r_X0_weighFrom s m args below meth c cX0_weighFrom tC kc ad D A Q R) : ∀ (n : Nat) (x4 : Int32) (σ : St) (H : Heap) (locs : List Loc) (ls : Array Slot), Dy tC kc ad D A s.heap σ H locs → lv_has ls 6 [(0, .ref (ad 10)), (1, .int x1), (2, .int x2), (3, .int x3), (4, .int x4)] → f_X0_weighFrom_3 x1 x2 x3 n x4 σ = some R → W p l e r_X0_weighFrom s m args below meth c H locs 0 0 Q (F0 m 3 ls []) := by
  have hx := C.1.1
  have hb := C.1.2.1
  intro n
  induction n with
  | zero =>
    intro x4 σ H locs ls Z hl h
    exact absurd (show none = some R from h) (by simp)
  | succ n ih =>
    intro x4 σ H locs ls Z hl h
    rw [f_X0_weighFrom_3] at h
    refine lv_iload hx hb dX0_weighFrom_3 (lv_at hl 4 rfl) ?_
    refine lv_iload_n hx hb dX0_weighFrom_5 rfl (lv_at hl 2 rfl) ?_
    refine lv_icmp_gt (tgt := 66) hx hb dX0_weighFrom_6 (by decide) (fun c6 => ?_) (fun c6 => ?_)
    · have h := ip h c6
      obtain rfl := Option.some.inj h
      exact hR _ _ _ _ Z dX0_weighFrom_66
    · have h := im h c6
      refine lv_iload hx hb dX0_weighFrom_9 (lv_at hl 4 rfl) ?_
      refine lv_bipush (v := 12) hx hb dX0_weighFrom_11 (by decide) ?_
      refine lv_icmp_gt (tgt := 66) hx hb dX0_weighFrom_13 (by decide) (fun c13 => ?_) (fun c13 => ?_)
      · have h := ip h c13
        obtain rfl := Option.some.inj h
        exact hR _ _ _ _ Z dX0_weighFrom_66
      · have h := im h c13
        refine lv_iconst (v := 0) hx hb dX0_weighFrom_16 (by decide) ?_
        refine lv_istore (lv' := [(5, .int 0), (0, .ref (ad 10)), (1, .int x1), (2, .int x2), (3, .int x3), (4, .int x4)]) hx hb dX0_weighFrom_17 hl (by decide) rfl (fun ls hl => ?_)
        exact w_X0_weighFrom_19 C hR ih _ _ _ _ _ _ Z (lv_sub hl [1, 2, 3, 4, 5, 0] rfl) h
set_option maxRecDepth 20000 in
theorem w_X0_weighFrom_0 {p : Program} {l : Launch} {e : Env} {s : State} {m : MethodId} {args : Array Value} {below : List Frame} {meth : Method} {c : Code} {Q : State → Prop} {D : va_G} {kc : Nat → ClassId} {ad : Nat → Nat} {A : Nat → Prop} {adK adV : Nat → Nat} (C : Cx (eC adK adV) p s m args c cX0_weighFrom 6 RX0 D kc A) {R : St} {x1 : Int32} {x2 : Int32} {x3 : Int32} {σ : St} (hR : RTv 0 0 p l e r_X0_weighFrom s m args below meth c cX0_weighFrom tC kc ad D A Q R) {H : Heap} {locs : List Loc} {ls : Array Slot} (Z : Dy tC kc ad D A s.heap σ H locs) (hl : lv_has ls 6 [(0, .ref (ad 10)), (1, .int x1), (2, .int x2), (3, .int x3)]) (h : f_X0_weighFrom x1 x2 x3 σ = some R) : W p l e r_X0_weighFrom s m args below meth c H locs 0 0 Q (F0 m 0 ls []) := by
  have hx := C.1.1
  have hb := C.1.2.1
  unfold f_X0_weighFrom at h
  refine lv_iconst (v := 0) hx hb dX0_weighFrom_0 (by decide) ?_
  refine lv_istore (lv' := [(4, .int 0), (0, .ref (ad 10)), (1, .int x1), (2, .int x2), (3, .int x3)]) hx hb dX0_weighFrom_1 hl (by decide) rfl (fun ls hl => ?_)
  exact w_X0_weighFrom_3 C hR _ _ _ _ _ _ Z (lv_sub hl [1, 2, 3, 4, 0] rfl) h
theorem k_X0_weighFrom {l : Launch} {kc : Nat → ClassId} {ad : Nat → Nat} {D : va_G} {adK adV : Nat → Nat} {x1 : Int32} {x2 : Int32} {x3 : Int32} {σ : St} {R : St} (h : f_X0_weighFrom x1 x2 x3 σ = some R) : KC (eC adK adV) tC kc ad D l yX0_weighFrom (.code yX0_weighFrom cX0_weighFrom 6 none) r_X0_weighFrom [.ref (ad 10), .int x1, .int x2, .int x3] none σ R := by
  refine g_enter (by decide) (Nat.le_of_ble_eq_true rfl) ?_
  intro p e s m args below meth c A hA C hr hlocks Z ls hl
  have hl : lv_has ls 6 [(0, .ref (ad 10)), (1, .int x1), (2, .int x2), (3, .int x3)] := hl
  exact w_X0_weighFrom_0 C (g_RTv C.1.1 C.1.2.1 hr hlocks hA)  Z hl h
def r_X0_takeIn : Room := { frames := 3, cells := 0, slots := 0, locals := 71 }
set_option maxRecDepth 20000 in
theorem w_X0_takeIn_71 {p : Program} {l : Launch} {e : Env} {s : State} {m : MethodId} {args : Array Value} {below : List Frame} {meth : Method} {c : Code} {Q : State → Prop} {D : va_G} {kc : Nat → ClassId} {ad : Nat → Nat} {A : Nat → Prop} {adK adV : Nat → Nat} (C : Cx (eC adK adV) p s m args c cX0_takeIn 10 RX0 D kc A) {R : St} {x1 : Int32} {x6 : Int32} {x7 : Int32} {σ : St} (hR : RTv 0 0 p l e r_X0_takeIn s m args below meth c cX0_takeIn tC kc ad D A Q R) {H : Heap} {locs : List Loc} {ls : Array Slot} (Z : Dy tC kc ad D A s.heap σ H locs) (hl : lv_has ls 10 [(0, .ref (ad 10)), (1, .int x1), (6, .int x6), (7, .int x7)]) (h : f_X0_takeIn_71 x1 x6 x7 σ = some R) : W p l e r_X0_takeIn s m args below meth c H locs 0 0 Q (F0 m 71 ls []) := by
  have hx := C.1.1
  have hb := C.1.2.1
  unfold f_X0_takeIn_71 at h
  refine lv_aload_n hx hb dX0_takeIn_71 rfl (lv_at hl 0 rfl) ?_
  refine rg_X0_25 C Z dX0_takeIn_72 ?_
  refine lv_iload_n hx hb dX0_takeIn_75 rfl (lv_at hl 1 rfl) ?_
  refine lv_iload hx hb dX0_takeIn_76 (lv_at hl 2 rfl) ?_
  obtain ⟨σ18, hσ18, h⟩ := ob h
  refine g_iast C Z iaC69 hσ18 dX0_takeIn_78 (fun H locs Z => ?_)
  refine lv_aload_n hx hb dX0_takeIn_79 rfl (lv_at hl 0 rfl) ?_
  refine rg_X0_28 C Z dX0_takeIn_80 ?_
  refine lv_iload_n hx hb dX0_takeIn_83 rfl (lv_at hl 1 rfl) ?_
  refine lv_iload hx hb dX0_takeIn_84 (lv_at hl 3 rfl) ?_
  obtain ⟨σ19, hσ19, h⟩ := ob h
  refine g_iast C Z iaC70 hσ19 dX0_takeIn_86 (fun H locs Z => ?_)
  obtain rfl := Option.some.inj h
  exact hR _ _ _ _ Z dX0_takeIn_87
set_option maxRecDepth 20000 in
theorem w_X0_takeIn_88 {p : Program} {l : Launch} {e : Env} {s : State} {m : MethodId} {args : Array Value} {below : List Frame} {meth : Method} {c : Code} {Q : State → Prop} {D : va_G} {kc : Nat → ClassId} {ad : Nat → Nat} {A : Nat → Prop} {adK adV : Nat → Nat} (C : Cx (eC adK adV) p s m args c cX0_takeIn 10 RX0 D kc A) {R : St} {x1 : Int32} {x2 : Int32} {x3 : Int32} {x4 : Int64} {x6 : Int32} {x7 : Int32} {σ : St} (hR : RTv 0 0 p l e r_X0_takeIn s m args below meth c cX0_takeIn tC kc ad D A Q R) {k21 : Int32 → Option (St)} {k12 : Int32 → Option (St)} (hk21 : ∀ (x7 : Int32) (H : Heap) (locs : List Loc) (ls : Array Slot), Dy tC kc ad D A s.heap σ H locs → lv_has ls 10 [(0, .ref (ad 10)), (1, .int x1), (2, .int x2), (3, .int x3), (4, .long x4), (6, .int x6), (7, .int x7)] → k21 x7 = some R → W p l e r_X0_takeIn s m args below meth c H locs 0 0 Q (F0 m 21 ls [])) (hk12 : ∀ (x6 : Int32) (H : Heap) (locs : List Loc) (ls : Array Slot), Dy tC kc ad D A s.heap σ H locs → lv_has ls 10 [(0, .ref (ad 10)), (1, .int x1), (2, .int x2), (3, .int x3), (4, .long x4), (6, .int x6)] → k12 x6 = some R → W p l e r_X0_takeIn s m args below meth c H locs 0 0 Q (F0 m 12 ls [])) {H : Heap} {locs : List Loc} {ls : Array Slot} (Z : Dy tC kc ad D A s.heap σ H locs) (hl : lv_has ls 10 [(0, .ref (ad 10)), (1, .int x1), (2, .int x2), (3, .int x3), (4, .long x4), (6, .int x6), (7, .int x7)]) (h : f_X0_takeIn_88 x1 x2 x3 x4 x6 x7 σ k21 k12 = some R) : W p l e r_X0_takeIn s m args below meth c H locs 0 0 Q (F0 m 88 ls []) := by
  have hx := C.1.1
  have hb := C.1.2.1
  unfold f_X0_takeIn_88 at h
  obtain ⟨v20, ev20, h⟩ := lb h
  refine lv_iinc (v := v20) (lv' := [(7, .int v20), (0, .ref (ad 10)), (1, .int x1), (2, .int x2), (3, .int x3), (4, .long x4), (6, .int x6)]) hx hb dX0_takeIn_88 hl (k := 6) rfl (by rw [ev20]; rfl) (by decide) rfl (fun ls hl => ?_)
  refine lv_goto (tgt := 21) hx hb dX0_takeIn_91 (by decide) ?_
  exact hk21 _ _ _ _ Z (lv_sub hl [1, 2, 3, 4, 5, 6, 0] rfl) h
set_option maxRecDepth 20000 in
theorem w_X0_takeIn_94 {p : Program} {l : Launch} {e : Env} {s : State} {m : MethodId} {args : Array Value} {below : List Frame} {meth : Method} {c : Code} {Q : State → Prop} {D : va_G} {kc : Nat → ClassId} {ad : Nat → Nat} {A : Nat → Prop} {adK adV : Nat → Nat} (C : Cx (eC adK adV) p s m args c cX0_takeIn 10 RX0 D kc A) {R : St} {x1 : Int32} {x2 : Int32} {x3 : Int32} {x4 : Int64} {x6 : Int32} {σ : St} (hR : RTv 0 0 p l e r_X0_takeIn s m args below meth c cX0_takeIn tC kc ad D A Q R) {k12 : Int32 → Option (St)} (hk12 : ∀ (x6 : Int32) (H : Heap) (locs : List Loc) (ls : Array Slot), Dy tC kc ad D A s.heap σ H locs → lv_has ls 10 [(0, .ref (ad 10)), (1, .int x1), (2, .int x2), (3, .int x3), (4, .long x4), (6, .int x6)] → k12 x6 = some R → W p l e r_X0_takeIn s m args below meth c H locs 0 0 Q (F0 m 12 ls [])) {H : Heap} {locs : List Loc} {ls : Array Slot} (Z : Dy tC kc ad D A s.heap σ H locs) (hl : lv_has ls 10 [(0, .ref (ad 10)), (1, .int x1), (2, .int x2), (3, .int x3), (4, .long x4), (6, .int x6)]) (h : f_X0_takeIn_94 x1 x2 x3 x4 x6 σ k12 = some R) : W p l e r_X0_takeIn s m args below meth c H locs 0 0 Q (F0 m 94 ls []) := by
  have hx := C.1.1
  have hb := C.1.2.1
  unfold f_X0_takeIn_94 at h
  obtain ⟨v21, ev21, h⟩ := lb h
  refine lv_iinc (v := v21) (lv' := [(6, .int v21), (0, .ref (ad 10)), (1, .int x1), (2, .int x2), (3, .int x3), (4, .long x4)]) hx hb dX0_takeIn_94 hl (k := 5) rfl (by rw [ev21]; rfl) (by decide) rfl (fun ls hl => ?_)
  refine lv_goto (tgt := 12) hx hb dX0_takeIn_97 (by decide) ?_
  exact hk12 _ _ _ _ Z (lv_sub hl [1, 2, 3, 4, 5, 0] rfl) h
set_option maxRecDepth 20000 in
theorem w_X0_takeIn_21 {p : Program} {l : Launch} {e : Env} {s : State} {m : MethodId} {args : Array Value} {below : List Frame} {meth : Method} {c : Code} {Q : State → Prop} {D : va_G} {kc : Nat → ClassId} {ad : Nat → Nat} {A : Nat → Prop} {adK adV : Nat → Nat} (C : Cx (eC adK adV) p s m args c cX0_takeIn 10 RX0 D kc A) {R : St} {x1 : Int32} {x2 : Int32} {x3 : Int32} {x4 : Int64} {x6 : Int32} {σ : St} (hR : RTv 0 0 p l e r_X0_takeIn s m args below meth c cX0_takeIn tC kc ad D A Q R) {k12 : Int32 → Option (St)} (hk12 : ∀ (x6 : Int32) (H : Heap) (locs : List Loc) (ls : Array Slot), Dy tC kc ad D A s.heap σ H locs → lv_has ls 10 [(0, .ref (ad 10)), (1, .int x1), (2, .int x2), (3, .int x3), (4, .long x4), (6, .int x6)] → k12 x6 = some R → W p l e r_X0_takeIn s m args below meth c H locs 0 0 Q (F0 m 12 ls [])) : ∀ (n : Nat) (x7 : Int32) (H : Heap) (locs : List Loc) (ls : Array Slot), Dy tC kc ad D A s.heap σ H locs → lv_has ls 10 [(0, .ref (ad 10)), (1, .int x1), (2, .int x2), (3, .int x3), (4, .long x4), (6, .int x6), (7, .int x7)] → f_X0_takeIn_21 x1 x2 x3 x4 x6 σ k12 n x7 = some R → W p l e r_X0_takeIn s m args below meth c H locs 0 0 Q (F0 m 21 ls []) := by
  have hx := C.1.1
  have hb := C.1.2.1
  intro n
  induction n with
  | zero =>
    intro x7 H locs ls Z hl h
    exact absurd (show none = some R from h) (by simp)
  | succ n ih =>
    intro x7 H locs ls Z hl h
    rw [f_X0_takeIn_21] at h
    refine lv_iload hx hb dX0_takeIn_21 (lv_at hl 6 rfl) ?_
    refine lv_iload_n hx hb dX0_takeIn_23 rfl (lv_at hl 3 rfl) ?_
    refine lv_icmp_gt (tgt := 94) hx hb dX0_takeIn_24 (by decide) (fun c24 => ?_) (fun c24 => ?_)
    · have h := ip h c24
      exact w_X0_takeIn_94 C hR hk12 Z (lv_sub hl [0, 1, 2, 3, 4, 5] rfl) h
    · have h := im h c24
      refine lv_aload_n hx hb dX0_takeIn_27 rfl (lv_at hl 0 rfl) ?_
      refine lv_iload_n hx hb dX0_takeIn_28 rfl (lv_at hl 1 rfl) ?_
      refine lv_iconst (v := 1) hx hb dX0_takeIn_29 (by decide) ?_
      refine lv_iadd hx hb dX0_takeIn_30 ?_
      refine lv_iload_n hx hb dX0_takeIn_31 rfl (lv_at hl 2 rfl) ?_
      refine lv_iload hx hb dX0_takeIn_32 (lv_at hl 5 rfl) ?_
      refine lv_isub hx hb dX0_takeIn_34 ?_
      refine lv_iload_n hx hb dX0_takeIn_35 rfl (lv_at hl 3 rfl) ?_
      refine lv_iload hx hb dX0_takeIn_36 (lv_at hl 6 rfl) ?_
      refine lv_isub hx hb dX0_takeIn_38 ?_
      obtain ⟨v16, hv16, h⟩ := ob h
      refine g_callVl (eC_ok adK adV) C Z (k_X0_leastFrom hv16) lk_X0_80 (by decide) rfl rfl hl (by decide) rfl (Nat.le_of_ble_eq_true rfl) (rest := []) rfl dX0_takeIn_39 (fun H locs Z => ?_)
      refine lv_lstore (lv' := [(8, .long v16), (0, .ref (ad 10)), (1, .int x1), (2, .int x2), (3, .int x3), (4, .long x4), (6, .int x6), (7, .int x7)]) hx hb dX0_takeIn_42 hl (by decide) rfl (fun ls hl => ?_)
      refine lv_lload hx hb dX0_takeIn_44 (lv_at hl 0 rfl) ?_
      refine lv_ldc2 (v := 1000000000000) hx hb C.1.2.2.2.1 (C.1.2.2.2.2 _ wDL_X0_61) dX0_takeIn_46 ?_
      refine g_lge (tgt := 88) hx hb dX0_takeIn_49 dX0_takeIn_50 (by decide) (fun c50 => ?_) (fun c50 => ?_)
      · have h := ip h c50
        exact w_X0_takeIn_88 C hR ih hk12 Z (lv_sub hl [1, 2, 3, 4, 5, 6, 7] rfl) h
      · have h := im h c50
        refine lv_lload hx hb dX0_takeIn_53 (lv_at hl 0 rfl) ?_
        refine lv_aload_n hx hb dX0_takeIn_55 rfl (lv_at hl 1 rfl) ?_
        refine lv_iload_n hx hb dX0_takeIn_56 rfl (lv_at hl 2 rfl) ?_
        refine lv_iload hx hb dX0_takeIn_57 (lv_at hl 6 rfl) ?_
        refine lv_iload hx hb dX0_takeIn_59 (lv_at hl 7 rfl) ?_
        obtain ⟨v17, hv17, h⟩ := ob h
        refine g_callVl (eC_ok adK adV) C Z (k_X0_weightOf hv17) lk_X0_83 (by decide) rfl rfl hl (by decide) rfl (Nat.le_of_ble_eq_true rfl) (rest := [.long v16]) rfl dX0_takeIn_61 (fun H locs Z => ?_)
        refine lv_ladd hx hb dX0_takeIn_64 ?_
        refine lv_lload hx hb dX0_takeIn_65 (lv_at hl 5 rfl) ?_
        refine g_lne (tgt := 88) hx hb dX0_takeIn_67 dX0_takeIn_68 (by decide) (fun c68 => ?_) (fun c68 => ?_)
        · have h := im h c68
          exact w_X0_takeIn_88 C hR ih hk12 Z (lv_sub hl [1, 2, 3, 4, 5, 6, 7] rfl) h
        · have h := ip h c68
          exact w_X0_takeIn_71 C hR Z (lv_sub hl [1, 2, 6, 7] rfl) h
set_option maxRecDepth 20000 in
theorem w_X0_takeIn_12 {p : Program} {l : Launch} {e : Env} {s : State} {m : MethodId} {args : Array Value} {below : List Frame} {meth : Method} {c : Code} {Q : State → Prop} {D : va_G} {kc : Nat → ClassId} {ad : Nat → Nat} {A : Nat → Prop} {adK adV : Nat → Nat} (C : Cx (eC adK adV) p s m args c cX0_takeIn 10 RX0 D kc A) {R : St} {x1 : Int32} {x2 : Int32} {x3 : Int32} {x4 : Int64} {σ : St} (hR : RTv 0 0 p l e r_X0_takeIn s m args below meth c cX0_takeIn tC kc ad D A Q R) : ∀ (n : Nat) (x6 : Int32) (H : Heap) (locs : List Loc) (ls : Array Slot), Dy tC kc ad D A s.heap σ H locs → lv_has ls 10 [(0, .ref (ad 10)), (1, .int x1), (2, .int x2), (3, .int x3), (4, .long x4), (6, .int x6)] → f_X0_takeIn_12 x1 x2 x3 x4 σ n x6 = some R → W p l e r_X0_takeIn s m args below meth c H locs 0 0 Q (F0 m 12 ls []) := by
  have hx := C.1.1
  have hb := C.1.2.1
  intro n
  induction n with
  | zero =>
    intro x6 H locs ls Z hl h
    exact absurd (show none = some R from h) (by simp)
  | succ n ih =>
    intro x6 H locs ls Z hl h
    rw [f_X0_takeIn_12] at h
    refine lv_iload hx hb dX0_takeIn_12 (lv_at hl 5 rfl) ?_
    refine lv_iload_n hx hb dX0_takeIn_14 rfl (lv_at hl 2 rfl) ?_
    refine lv_icmp_gt (tgt := 100) hx hb dX0_takeIn_15 (by decide) (fun c15 => ?_) (fun c15 => ?_)
    · have h := ip h c15
      obtain rfl := Option.some.inj h
      exact hR _ _ _ _ Z dX0_takeIn_100
    · have h := im h c15
      refine lv_iconst (v := 0) hx hb dX0_takeIn_18 (by decide) ?_
      refine lv_istore (lv' := [(7, .int 0), (0, .ref (ad 10)), (1, .int x1), (2, .int x2), (3, .int x3), (4, .long x4), (6, .int x6)]) hx hb dX0_takeIn_19 hl (by decide) rfl (fun ls hl => ?_)
      exact w_X0_takeIn_21 C hR ih _ _ _ _ _ Z (lv_sub hl [1, 2, 3, 4, 5, 6, 0] rfl) h
set_option maxRecDepth 20000 in
theorem w_X0_takeIn_0 {p : Program} {l : Launch} {e : Env} {s : State} {m : MethodId} {args : Array Value} {below : List Frame} {meth : Method} {c : Code} {Q : State → Prop} {D : va_G} {kc : Nat → ClassId} {ad : Nat → Nat} {A : Nat → Prop} {adK adV : Nat → Nat} (C : Cx (eC adK adV) p s m args c cX0_takeIn 10 RX0 D kc A) {R : St} {x1 : Int32} {x2 : Int32} {x3 : Int32} {σ : St} (hR : RTv 0 0 p l e r_X0_takeIn s m args below meth c cX0_takeIn tC kc ad D A Q R) {H : Heap} {locs : List Loc} {ls : Array Slot} (Z : Dy tC kc ad D A s.heap σ H locs) (hl : lv_has ls 10 [(0, .ref (ad 10)), (1, .int x1), (2, .int x2), (3, .int x3)]) (h : f_X0_takeIn x1 x2 x3 σ = some R) : W p l e r_X0_takeIn s m args below meth c H locs 0 0 Q (F0 m 0 ls []) := by
  have hx := C.1.1
  have hb := C.1.2.1
  unfold f_X0_takeIn at h
  refine lv_aload_n hx hb dX0_takeIn_0 rfl (lv_at hl 0 rfl) ?_
  refine lv_iload_n hx hb dX0_takeIn_1 rfl (lv_at hl 1 rfl) ?_
  refine lv_iload_n hx hb dX0_takeIn_2 rfl (lv_at hl 2 rfl) ?_
  refine lv_iload_n hx hb dX0_takeIn_3 rfl (lv_at hl 3 rfl) ?_
  obtain ⟨v15, hv15, h⟩ := ob h
  refine g_callVl (eC_ok adK adV) C Z (k_X0_leastFrom hv15) lk_X0_80 (by decide) rfl rfl hl (by decide) rfl (Nat.le_of_ble_eq_true rfl) (rest := []) rfl dX0_takeIn_4 (fun H locs Z => ?_)
  refine lv_lstore (lv' := [(4, .long v15), (0, .ref (ad 10)), (1, .int x1), (2, .int x2), (3, .int x3)]) hx hb dX0_takeIn_7 hl (by decide) rfl (fun ls hl => ?_)
  refine lv_iconst (v := 0) hx hb dX0_takeIn_9 (by decide) ?_
  refine lv_istore (lv' := [(6, .int 0), (4, .long v15), (0, .ref (ad 10)), (1, .int x1), (2, .int x2), (3, .int x3)]) hx hb dX0_takeIn_10 hl (by decide) rfl (fun ls hl => ?_)
  exact w_X0_takeIn_12 C hR _ _ _ _ _ Z (lv_sub hl [2, 3, 4, 5, 1, 0] rfl) h
theorem k_X0_takeIn {l : Launch} {kc : Nat → ClassId} {ad : Nat → Nat} {D : va_G} {adK adV : Nat → Nat} {x1 : Int32} {x2 : Int32} {x3 : Int32} {σ : St} {R : St} (h : f_X0_takeIn x1 x2 x3 σ = some R) : KC (eC adK adV) tC kc ad D l yX0_takeIn (.code yX0_takeIn cX0_takeIn 10 none) r_X0_takeIn [.ref (ad 10), .int x1, .int x2, .int x3] none σ R := by
  refine g_enter (by decide) (Nat.le_of_ble_eq_true rfl) ?_
  intro p e s m args below meth c A hA C hr hlocks Z ls hl
  have hl : lv_has ls 10 [(0, .ref (ad 10)), (1, .int x1), (2, .int x2), (3, .int x3)] := hl
  exact w_X0_takeIn_0 C (g_RTv C.1.1 C.1.2.1 hr hlocks hA)  Z hl h
def r_X0_takeFirst : Room := { frames := 4, cells := 0, slots := 0, locals := 100 }
set_option maxRecDepth 20000 in
theorem w_X0_takeFirst_24 {p : Program} {l : Launch} {e : Env} {s : State} {m : MethodId} {args : Array Value} {below : List Frame} {meth : Method} {c : Code} {Q : State → Prop} {D : va_G} {kc : Nat → ClassId} {ad : Nat → Nat} {A : Nat → Prop} {adK adV : Nat → Nat} (C : Cx (eC adK adV) p s m args c cX0_takeFirst 7 RX0 D kc A) {R : Int32 × St} (hR : RTi 0 0 p l e r_X0_takeFirst s m args below meth c cX0_takeFirst tC kc ad D A Q .int R.1 R.2) : ∀ (n : Nat) (x3 : Int32) (x4 : Int32) (x5 : Int32) (x6 : Int32) (σ : St) (H : Heap) (locs : List Loc) (ls : Array Slot), Dy tC kc ad D A s.heap σ H locs → lv_has ls 7 [(0, .ref (ad 10)), (3, .int x3), (4, .int x4), (5, .int x5), (6, .int x6)] → f_X0_takeFirst_24 n x3 x4 x5 x6 σ = some R → W p l e r_X0_takeFirst s m args below meth c H locs 0 0 Q (F0 m 24 ls []) := by
  have hx := C.1.1
  have hb := C.1.2.1
  intro n
  induction n with
  | zero =>
    intro x3 x4 x5 x6 σ H locs ls Z hl h
    exact absurd (show none = some R from h) (by simp)
  | succ n ih =>
    intro x3 x4 x5 x6 σ H locs ls Z hl h
    rw [f_X0_takeFirst_24] at h
    refine lv_iload hx hb dX0_takeFirst_24 (lv_at hl 4 rfl) ?_
    refine lv_aload_n hx hb dX0_takeFirst_26 rfl (lv_at hl 0 rfl) ?_
    refine rg_X0_36 C Z dX0_takeFirst_27 ?_
    refine lv_icmp_ge (tgt := 117) hx hb dX0_takeFirst_30 (by decide) (fun c30 => ?_) (fun c30 => ?_)
    · have h := ip h c30
      refine lv_iload hx hb dX0_takeFirst_117 (lv_at hl 3 rfl) ?_
      obtain rfl := Option.some.inj h
      exact hR _ _ _ _ _ Z dX0_takeFirst_119 rfl
    · have h := im h c30
      refine lv_aload_n hx hb dX0_takeFirst_33 rfl (lv_at hl 0 rfl) ?_
      refine lv_iload hx hb dX0_takeFirst_34 (lv_at hl 4 rfl) ?_
      refine lv_iload_n hx hb dX0_takeFirst_36 rfl (lv_at hl 1 rfl) ?_
      refine lv_iload hx hb dX0_takeFirst_37 (lv_at hl 2 rfl) ?_
      obtain ⟨σ33, hσ33, h⟩ := ob h
      refine g_callVv (eC_ok adK adV) C Z (k_X0_takeIn hσ33) lk_X0_93 (by decide) rfl rfl hl (by decide) rfl (Nat.le_of_ble_eq_true rfl) (rest := []) rfl dX0_takeFirst_39 (fun H locs Z => ?_)
      refine lv_iload_n hx hb dX0_takeFirst_42 rfl (lv_at hl 1 rfl) ?_
      refine lv_aload_n hx hb dX0_takeFirst_43 rfl (lv_at hl 0 rfl) ?_
      refine rg_X0_25 C Z dX0_takeFirst_44 ?_
      refine lv_iload hx hb dX0_takeFirst_47 (lv_at hl 4 rfl) ?_
      obtain ⟨v34, hv34, h⟩ := ob h
      refine g_iald C Z iaC69 hv34 dX0_takeFirst_49 ?_
      refine lv_isub hx hb dX0_takeFirst_50 ?_
      obtain ⟨v35, ev35, h⟩ := lb h
      refine tn_i ev35 ?_
      refine lv_istore_n (lv' := [(3, .int v35), (0, .ref (ad 10)), (4, .int x4), (5, .int x5), (6, .int x6)]) hx hb dX0_takeFirst_51 rfl hl (by decide) rfl (fun ls hl => ?_)
      refine lv_iload hx hb dX0_takeFirst_52 (lv_at hl 2 rfl) ?_
      refine lv_aload_n hx hb dX0_takeFirst_54 rfl (lv_at hl 1 rfl) ?_
      refine rg_X0_28 C Z dX0_takeFirst_55 ?_
      refine lv_iload hx hb dX0_takeFirst_58 (lv_at hl 4 rfl) ?_
      obtain ⟨v36, hv36, h⟩ := ob h
      refine g_iald C Z iaC70 hv36 dX0_takeFirst_60 ?_
      refine lv_isub hx hb dX0_takeFirst_61 ?_
      obtain ⟨v37, ev37, h⟩ := lb h
      refine tn_i ev37 ?_
      refine lv_istore (lv' := [(4, .int v37), (3, .int v35), (0, .ref (ad 10)), (5, .int x5), (6, .int x6)]) hx hb dX0_takeFirst_62 hl (by decide) rfl (fun ls hl => ?_)
      refine lv_iload hx hb dX0_takeFirst_64 (lv_at hl 3 rfl) ?_
      refine lv_aload_n hx hb dX0_takeFirst_66 rfl (lv_at hl 2 rfl) ?_
      refine lv_iload hx hb dX0_takeFirst_67 (lv_at hl 4 rfl) ?_
      refine lv_aload_n hx hb dX0_takeFirst_69 rfl (lv_at hl 2 rfl) ?_
      refine rg_X0_25 C Z dX0_takeFirst_70 ?_
      refine lv_iload hx hb dX0_takeFirst_73 (lv_at hl 4 rfl) ?_
      obtain ⟨v38, hv38, h⟩ := ob h
      refine g_iald C Z iaC69 hv38 dX0_takeFirst_75 ?_
      refine lv_aload_n hx hb dX0_takeFirst_76 rfl (lv_at hl 2 rfl) ?_
      refine rg_X0_28 C Z dX0_takeFirst_77 ?_
      refine lv_iload hx hb dX0_takeFirst_80 (lv_at hl 4 rfl) ?_
      obtain ⟨v39, hv39, h⟩ := ob h
      refine g_iald C Z iaC70 hv39 dX0_takeFirst_82 ?_
      obtain ⟨v40, hv40, h⟩ := ob h
      refine g_callVi (eC_ok adK adV) C Z (k_X0_cutOf hv40) lk_X0_49 (by decide) rfl rfl hl (by decide) rfl (Nat.le_of_ble_eq_true rfl) (rest := [.int x5]) rfl dX0_takeFirst_83 (fun H locs Z => ?_)
      refine lv_iadd hx hb dX0_takeFirst_86 ?_
      obtain ⟨v41, ev41, h⟩ := lb h
      refine tn_i ev41 ?_
      refine lv_istore (lv' := [(5, .int v41), (4, .int v37), (3, .int v35), (0, .ref (ad 10)), (6, .int x6)]) hx hb dX0_takeFirst_87 hl (by decide) rfl (fun ls hl => ?_)
      refine lv_aload_n hx hb dX0_takeFirst_89 rfl (lv_at hl 3 rfl) ?_
      refine lv_dup hx hb dX0_takeFirst_90 rfl ?_
      refine rg_X0_32 C Z dX0_takeFirst_91 ?_
      refine lv_aload_n hx hb dX0_takeFirst_94 rfl (lv_at hl 3 rfl) ?_
      refine lv_iload hx hb dX0_takeFirst_95 (lv_at hl 4 rfl) ?_
      refine lv_aload_n hx hb dX0_takeFirst_97 rfl (lv_at hl 3 rfl) ?_
      refine rg_X0_25 C Z dX0_takeFirst_98 ?_
      refine lv_iload hx hb dX0_takeFirst_101 (lv_at hl 4 rfl) ?_
      obtain ⟨v42, hv42, h⟩ := ob h
      refine g_iald C Z iaC69 hv42 dX0_takeFirst_103 ?_
      obtain ⟨v43, hv43, h⟩ := ob h
      refine g_callVi (eC_ok adK adV) C Z (k_X0_caughtOf hv43) lk_X0_55 (by decide) rfl rfl hl (by decide) rfl (Nat.le_of_ble_eq_true rfl) (rest := [.int (gF σ33 1007), .ref (ad 10)]) rfl dX0_takeFirst_104 (fun H locs Z => ?_)
      refine lv_iadd hx hb dX0_takeFirst_107 ?_
      obtain ⟨σ44, eσ44, h⟩ := lb h
      refine rp_X0_32 C Z eσ44 dX0_takeFirst_108 (fun H locs Z => ?_)
      obtain ⟨v45, ev45, h⟩ := lb h
      refine lv_iinc (v := v45) (lv' := [(6, .int v45), (5, .int v41), (4, .int v37), (3, .int v35), (0, .ref (ad 10))]) hx hb dX0_takeFirst_111 hl (k := 4) rfl (by rw [ev45]; rfl) (by decide) rfl (fun ls hl => ?_)
      refine lv_goto (tgt := 24) hx hb dX0_takeFirst_114 (by decide) ?_
      exact ih _ _ _ _ _ _ _ _ Z (lv_sub hl [4, 3, 2, 1, 0] rfl) h
set_option maxRecDepth 20000 in
theorem w_X0_takeFirst_0 {p : Program} {l : Launch} {e : Env} {s : State} {m : MethodId} {args : Array Value} {below : List Frame} {meth : Method} {c : Code} {Q : State → Prop} {D : va_G} {kc : Nat → ClassId} {ad : Nat → Nat} {A : Nat → Prop} {adK adV : Nat → Nat} (C : Cx (eC adK adV) p s m args c cX0_takeFirst 7 RX0 D kc A) {R : Int32 × St} {x1 : Int32} {x2 : Int32} {σ : St} (hR : RTi 0 0 p l e r_X0_takeFirst s m args below meth c cX0_takeFirst tC kc ad D A Q .int R.1 R.2) {H : Heap} {locs : List Loc} {ls : Array Slot} (Z : Dy tC kc ad D A s.heap σ H locs) (hl : lv_has ls 7 [(0, .ref (ad 10)), (1, .int x1), (2, .int x2)]) (h : f_X0_takeFirst x1 x2 σ = some R) : W p l e r_X0_takeFirst s m args below meth c H locs 0 0 Q (F0 m 0 ls []) := by
  have hx := C.1.1
  have hb := C.1.2.1
  unfold f_X0_takeFirst at h
  refine lv_iload_n hx hb dX0_takeFirst_0 rfl (lv_at hl 1 rfl) ?_
  refine lv_istore_n (lv' := [(3, .int x1), (0, .ref (ad 10)), (1, .int x1), (2, .int x2)]) hx hb dX0_takeFirst_1 rfl hl (by decide) rfl (fun ls hl => ?_)
  refine lv_iload_n hx hb dX0_takeFirst_2 rfl (lv_at hl 3 rfl) ?_
  refine lv_istore (lv' := [(4, .int x2), (3, .int x1), (0, .ref (ad 10)), (1, .int x1), (2, .int x2)]) hx hb dX0_takeFirst_3 hl (by decide) rfl (fun ls hl => ?_)
  refine lv_iconst (v := 0) hx hb dX0_takeFirst_5 (by decide) ?_
  refine lv_istore (lv' := [(5, .int 0), (4, .int x2), (3, .int x1), (0, .ref (ad 10)), (1, .int x1), (2, .int x2)]) hx hb dX0_takeFirst_6 hl (by decide) rfl (fun ls hl => ?_)
  refine lv_aload_n hx hb dX0_takeFirst_8 rfl (lv_at hl 3 rfl) ?_
  refine lv_iconst (v := 0) hx hb dX0_takeFirst_9 (by decide) ?_
  obtain ⟨σ31, eσ31, h⟩ := lb h
  refine rp_X0_32 C Z eσ31 dX0_takeFirst_10 (fun H locs Z => ?_)
  refine lv_aload_n hx hb dX0_takeFirst_13 rfl (lv_at hl 3 rfl) ?_
  refine lv_aload_n hx hb dX0_takeFirst_14 rfl (lv_at hl 3 rfl) ?_
  refine rg_X0_36 C Z dX0_takeFirst_15 ?_
  obtain ⟨σ32, eσ32, h⟩ := lb h
  refine rp_X0_90 C Z eσ32 dX0_takeFirst_18 (fun H locs Z => ?_)
  refine lv_iconst (v := 0) hx hb dX0_takeFirst_21 (by decide) ?_
  refine lv_istore (lv' := [(6, .int 0), (5, .int 0), (4, .int x2), (3, .int x1), (0, .ref (ad 10)), (1, .int x1), (2, .int x2)]) hx hb dX0_takeFirst_22 hl (by decide) rfl (fun ls hl => ?_)
  exact w_X0_takeFirst_24 C hR _ _ _ _ _ _ _ _ _ Z (lv_sub hl [4, 3, 2, 1, 0] rfl) h
theorem k_X0_takeFirst {l : Launch} {kc : Nat → ClassId} {ad : Nat → Nat} {D : va_G} {adK adV : Nat → Nat} {x1 : Int32} {x2 : Int32} {σ : St} {R : Int32 × St} (h : f_X0_takeFirst x1 x2 σ = some R) : KC (eC adK adV) tC kc ad D l yX0_takeFirst (.code yX0_takeFirst cX0_takeFirst 7 (some .int)) r_X0_takeFirst [.ref (ad 10), .int x1, .int x2] (some (.int R.1)) σ R.2 := by
  refine g_enter (by decide) (Nat.le_of_ble_eq_true rfl) ?_
  intro p e s m args below meth c A hA C hr hlocks Z ls hl
  have hl : lv_has ls 7 [(0, .ref (ad 10)), (1, .int x1), (2, .int x2)] := hl
  exact w_X0_takeFirst_0 C (g_RTi C.1.1 C.1.2.1 hr hlocks hA)  Z hl h
def r_X0_give : Room := { frames := 5, cells := 0, slots := 0, locals := 126 }
set_option maxRecDepth 20000 in
theorem w_X0_give_49 {p : Program} {l : Launch} {e : Env} {s : State} {m : MethodId} {args : Array Value} {below : List Frame} {meth : Method} {c : Code} {Q : State → Prop} {D : va_G} {kc : Nat → ClassId} {ad : Nat → Nat} {A : Nat → Prop} {adK adV : Nat → Nat} (C : Cx (eC adK adV) p s m args c cX0_give 4 RX0 D kc A) {R : Int32 × St} {x1 : Int32} {x2 : Int32} {σ : St} (hR : RTi 0 0 p l e r_X0_give s m args below meth c cX0_give tC kc ad D A Q .int R.1 R.2) {H : Heap} {locs : List Loc} {ls : Array Slot} (Z : Dy tC kc ad D A s.heap σ H locs) (hl : lv_has ls 4 [(0, .ref (ad 10)), (1, .int x1), (2, .int x2)]) (h : f_X0_give_49 x1 x2 σ = some R) : W p l e r_X0_give s m args below meth c H locs 0 0 Q (F0 m 49 ls []) := by
  have hx := C.1.1
  have hb := C.1.2.1
  unfold f_X0_give_49 at h
  refine lv_aload_n hx hb dX0_give_49 rfl (lv_at hl 0 rfl) ?_
  refine lv_iload_n hx hb dX0_give_50 rfl (lv_at hl 1 rfl) ?_
  refine lv_iload_n hx hb dX0_give_51 rfl (lv_at hl 2 rfl) ?_
  obtain ⟨u18, hu18, h⟩ := ob h
  refine g_callVi (eC_ok adK adV) C Z (k_X0_takeFirst hu18) lk_X0_73 (by decide) rfl rfl hl (by decide) rfl (Nat.le_of_ble_eq_true rfl) (rest := []) rfl dX0_give_52 (fun H locs Z => ?_)
  obtain rfl := Option.some.inj h
  exact hR _ _ _ _ _ Z dX0_give_55 rfl
set_option maxRecDepth 20000 in
theorem w_X0_give_32 {p : Program} {l : Launch} {e : Env} {s : State} {m : MethodId} {args : Array Value} {below : List Frame} {meth : Method} {c : Code} {Q : State → Prop} {D : va_G} {kc : Nat → ClassId} {ad : Nat → Nat} {A : Nat → Prop} {adK adV : Nat → Nat} (C : Cx (eC adK adV) p s m args c cX0_give 4 RX0 D kc A) {R : Int32 × St} {x1 : Int32} {x2 : Int32} (hR : RTi 0 0 p l e r_X0_give s m args below meth c cX0_give tC kc ad D A Q .int R.1 R.2) : ∀ (n : Nat) (x3 : Int32) (σ : St) (H : Heap) (locs : List Loc) (ls : Array Slot), Dy tC kc ad D A s.heap σ H locs → lv_has ls 4 [(0, .ref (ad 10)), (1, .int x1), (2, .int x2), (3, .int x3)] → f_X0_give_32 x1 x2 n x3 σ = some R → W p l e r_X0_give s m args below meth c H locs 0 0 Q (F0 m 32 ls []) := by
  have hx := C.1.1
  have hb := C.1.2.1
  intro n
  induction n with
  | zero =>
    intro x3 σ H locs ls Z hl h
    exact absurd (show none = some R from h) (by simp)
  | succ n ih =>
    intro x3 σ H locs ls Z hl h
    rw [f_X0_give_32] at h
    refine lv_iload_n hx hb dX0_give_32 rfl (lv_at hl 3 rfl) ?_
    refine lv_if_lt (tgt := 49) hx hb dX0_give_33 (by decide) (fun c33 => ?_) (fun c33 => ?_)
    · have h := ip h c33
      exact w_X0_give_49 C hR Z (lv_sub hl [0, 1, 2] rfl) h
    · have h := im h c33
      refine lv_aload_n hx hb dX0_give_36 rfl (lv_at hl 0 rfl) ?_
      refine lv_iload_n hx hb dX0_give_37 rfl (lv_at hl 3 rfl) ?_
      refine lv_iload_n hx hb dX0_give_38 rfl (lv_at hl 1 rfl) ?_
      refine lv_iload_n hx hb dX0_give_39 rfl (lv_at hl 2 rfl) ?_
      obtain ⟨σ16, hσ16, h⟩ := ob h
      refine g_callVv (eC_ok adK adV) C Z (k_X0_weighFrom hσ16) lk_X0_69 (by decide) rfl rfl hl (by decide) rfl (Nat.le_of_ble_eq_true rfl) (rest := []) rfl dX0_give_40 (fun H locs Z => ?_)
      obtain ⟨v17, ev17, h⟩ := lb h
      refine lv_iinc (v := v17) (lv' := [(3, .int v17), (0, .ref (ad 10)), (1, .int x1), (2, .int x2)]) hx hb dX0_give_43 hl (k := 3) rfl (by rw [ev17]; rfl) (by decide) rfl (fun ls hl => ?_)
      refine lv_goto (tgt := 32) hx hb dX0_give_46 (by decide) ?_
      exact ih _ _ _ _ _ Z (lv_sub hl [1, 2, 3, 0] rfl) h
set_option maxRecDepth 20000 in
theorem w_X0_give_0 {p : Program} {l : Launch} {e : Env} {s : State} {m : MethodId} {args : Array Value} {below : List Frame} {meth : Method} {c : Code} {Q : State → Prop} {D : va_G} {kc : Nat → ClassId} {ad : Nat → Nat} {A : Nat → Prop} {adK adV : Nat → Nat} (C : Cx (eC adK adV) p s m args c cX0_give 4 RX0 D kc A) {R : Int32 × St} {x1 : Int32} {x2 : Int32} {σ : St} (hR : RTi 0 0 p l e r_X0_give s m args below meth c cX0_give tC kc ad D A Q .int R.1 R.2) {H : Heap} {locs : List Loc} {ls : Array Slot} (Z : Dy tC kc ad D A s.heap σ H locs) (hl : lv_has ls 4 [(0, .ref (ad 10)), (1, .int x1), (2, .int x2)]) (h : f_X0_give x1 x2 σ = some R) : W p l e r_X0_give s m args below meth c H locs 0 0 Q (F0 m 0 ls []) := by
  have hx := C.1.1
  have hb := C.1.2.1
  unfold f_X0_give at h
  refine lv_aload_n hx hb dX0_give_0 rfl (lv_at hl 0 rfl) ?_
  refine rg_X0_21 C Z dX0_give_1 ?_
  refine lv_ldc2 (v := 1000000000000) hx hb C.1.2.2.2.1 (C.1.2.2.2.2 _ wDL_X0_61) dX0_give_4 ?_
  obtain ⟨σ13, hσ13, h⟩ := ob h
  refine g_callSv (eC_ok adK adV) C Z (k_J7_fill_d0a16 iaC68 hσ13) lk_X0_63 hl (by decide) rfl (Nat.le_of_ble_eq_true rfl) (rest := []) rfl dX0_give_7 (fun H locs Z => ?_)
  refine lv_aload_n hx hb dX0_give_10 rfl (lv_at hl 0 rfl) ?_
  refine rg_X0_21 C Z dX0_give_11 ?_
  refine lv_aload_n hx hb dX0_give_14 rfl (lv_at hl 0 rfl) ?_
  refine rg_X0_36 C Z dX0_give_15 ?_
  refine lv_iconst (v := 0) hx hb dX0_give_18 (by decide) ?_
  refine lv_iconst (v := 0) hx hb dX0_give_19 (by decide) ?_
  refine g_callSi (eC_ok adK adV) C Z (k_X0_placeOf (gF σ13 1003) 0 0 σ13) lk_X0_58 hl (by decide) rfl (Nat.le_of_ble_eq_true rfl) (rest := [.ref (ad 68)]) rfl dX0_give_20 (fun H locs Z => ?_)
  refine lv_lconst (v := 0) hx hb dX0_give_23 (by decide) ?_
  obtain ⟨σ14, hσ14, h⟩ := ob h
  refine g_last C Z iaC68 hσ14 dX0_give_24 (fun H locs Z => ?_)
  refine lv_aload_n hx hb dX0_give_25 rfl (lv_at hl 0 rfl) ?_
  refine rg_X0_36 C Z dX0_give_26 ?_
  refine lv_iconst (v := 1) hx hb dX0_give_29 (by decide) ?_
  refine lv_isub hx hb dX0_give_30 ?_
  obtain ⟨v15, ev15, h⟩ := lb h
  refine tn_i ev15 ?_
  refine lv_istore_n (lv' := [(3, .int v15), (0, .ref (ad 10)), (1, .int x1), (2, .int x2)]) hx hb dX0_give_31 rfl hl (by decide) rfl (fun ls hl => ?_)
  exact w_X0_give_32 C hR _ _ _ _ _ _ Z (lv_sub hl [1, 2, 3, 0] rfl) h
theorem k_X0_give {l : Launch} {kc : Nat → ClassId} {ad : Nat → Nat} {D : va_G} {adK adV : Nat → Nat} {x1 : Int32} {x2 : Int32} {σ : St} {R : Int32 × St} (h : f_X0_give x1 x2 σ = some R) : KC (eC adK adV) tC kc ad D l yX0_give (.code yX0_give cX0_give 4 (some .int)) r_X0_give [.ref (ad 10), .int x1, .int x2] (some (.int R.1)) σ R.2 := by
  refine g_enter (by decide) (Nat.le_of_ble_eq_true rfl) ?_
  intro p e s m args below meth c A hA C hr hlocks Z ls hl
  have hl : lv_has ls 4 [(0, .ref (ad 10)), (1, .int x1), (2, .int x2)] := hl
  exact w_X0_give_0 C (g_RTi C.1.1 C.1.2.1 hr hlocks hA)  Z hl h
def r_X0_given : Room := { frames := 1, cells := 0, slots := 0, locals := 22 }
set_option maxRecDepth 20000 in
theorem w_X0_given_0 {p : Program} {l : Launch} {e : Env} {s : State} {m : MethodId} {args : Array Value} {below : List Frame} {meth : Method} {c : Code} {Q : State → Prop} {D : va_G} {kc : Nat → ClassId} {ad : Nat → Nat} {A : Nat → Prop} {adK adV : Nat → Nat} (C : Cx (eC adK adV) p s m args c cX0_given 2 RX0 D kc A) {R : Int32} {x1 : Int32} {σ : St} (hR : RTi 0 0 p l e r_X0_given s m args below meth c cX0_given tC kc ad D A Q .int R σ) {H : Heap} {locs : List Loc} {ls : Array Slot} (Z : Dy tC kc ad D A s.heap σ H locs) (hl : lv_has ls 2 [(0, .ref (ad 10)), (1, .int x1)]) (h : f_X0_given x1 σ = some R) : W p l e r_X0_given s m args below meth c H locs 0 0 Q (F0 m 0 ls []) := by
  have hx := C.1.1
  have hb := C.1.2.1
  unfold f_X0_given at h
  refine lv_iload_n hx hb dX0_given_0 rfl (lv_at hl 1 rfl) ?_
  refine lv_if_ne (tgt := 9) hx hb dX0_given_1 (by decide) (fun c1 => ?_) (fun c1 => ?_)
  · have h := im h c1
    refine lv_iload_n hx hb dX0_given_9 rfl (lv_at hl 1 rfl) ?_
    refine lv_bipush (v := 100) hx hb dX0_given_10 (by decide) ?_
    refine lv_bipush (v := 99) hx hb dX0_given_12 (by decide) ?_
    refine lv_aload_n hx hb dX0_given_14 rfl (lv_at hl 0 rfl) ?_
    refine rg_X0_90 C Z dX0_given_15 ?_
    refine lv_iadd hx hb dX0_given_18 ?_
    refine g_callNi (eC_ok adK adV) C Z (k_X10_lies x1 100 (99 + (gF σ 1008)) σ) (C.2.2.2.1 _ nw_X0_39) lkn_X10_lies hl (by decide) rfl (Nat.le_of_ble_eq_true rfl) (rest := []) rfl dX0_given_19 (fun H locs Z => ?_)
    refine lv_if_eq (tgt := 35) hx hb dX0_given_22 (by decide) (fun c22 => ?_) (fun c22 => ?_)
    · have h := ip h c22
      refine lv_iload_n hx hb dX0_given_35 rfl (lv_at hl 1 rfl) ?_
      refine lv_sipush (v := 200) hx hb dX0_given_36 (by decide) ?_
      refine lv_sipush (v := 199) hx hb dX0_given_39 (by decide) ?_
      refine lv_aload_n hx hb dX0_given_42 rfl (lv_at hl 0 rfl) ?_
      refine rg_X0_90 C Z dX0_given_43 ?_
      refine lv_iadd hx hb dX0_given_46 ?_
      refine g_callNi (eC_ok adK adV) C Z (k_X10_lies x1 200 (199 + (gF σ 1008)) σ) (C.2.2.2.1 _ nw_X0_39) lkn_X10_lies hl (by decide) rfl (Nat.le_of_ble_eq_true rfl) (rest := []) rfl dX0_given_47 (fun H locs Z => ?_)
      refine lv_if_eq (tgt := 64) hx hb dX0_given_50 (by decide) (fun c50 => ?_) (fun c50 => ?_)
      · have h := ip h c50
        refine lv_ldc (v := (-1000000000)) hx hb C.1.2.2.2.1 (C.1.2.2.2.2 _ wD_X0_31) dX0_given_64 ?_
        obtain rfl := Option.some.inj h
        exact hR _ _ _ _ _ Z dX0_given_66 rfl
      · have h := im h c50
        refine lv_aload_n hx hb dX0_given_53 rfl (lv_at hl 0 rfl) ?_
        refine rg_X0_28 C Z dX0_given_54 ?_
        refine lv_iload_n hx hb dX0_given_57 rfl (lv_at hl 1 rfl) ?_
        refine lv_sipush (v := 200) hx hb dX0_given_58 (by decide) ?_
        refine lv_isub hx hb dX0_given_61 ?_
        obtain ⟨v5, hv5, h⟩ := ob h
        refine g_iald C Z iaC70 hv5 dX0_given_62 ?_
        obtain rfl := Option.some.inj h
        exact hR _ _ _ _ _ Z dX0_given_63 rfl
    · have h := im h c22
      refine lv_aload_n hx hb dX0_given_25 rfl (lv_at hl 0 rfl) ?_
      refine rg_X0_25 C Z dX0_given_26 ?_
      refine lv_iload_n hx hb dX0_given_29 rfl (lv_at hl 1 rfl) ?_
      refine lv_bipush (v := 100) hx hb dX0_given_30 (by decide) ?_
      refine lv_isub hx hb dX0_given_32 ?_
      obtain ⟨v6, hv6, h⟩ := ob h
      refine g_iald C Z iaC69 hv6 dX0_given_33 ?_
      obtain rfl := Option.some.inj h
      exact hR _ _ _ _ _ Z dX0_given_34 rfl
  · have h := ip h c1
    refine lv_aload_n hx hb dX0_given_4 rfl (lv_at hl 0 rfl) ?_
    refine rg_X0_32 C Z dX0_given_5 ?_
    obtain rfl := Option.some.inj h
    exact hR _ _ _ _ _ Z dX0_given_8 rfl
theorem k_X0_given {l : Launch} {kc : Nat → ClassId} {ad : Nat → Nat} {D : va_G} {adK adV : Nat → Nat} {x1 : Int32} {σ : St} {R : Int32} (h : f_X0_given x1 σ = some R) : KC (eC adK adV) tC kc ad D l yX0_given (.code yX0_given cX0_given 2 (some .int)) r_X0_given [.ref (ad 10), .int x1] (some (.int R)) σ σ := by
  refine g_enter (by decide) (Nat.le_of_ble_eq_true rfl) ?_
  intro p e s m args below meth c A hA C hr hlocks Z ls hl
  have hl : lv_has ls 2 [(0, .ref (ad 10)), (1, .int x1)] := hl
  exact w_X0_given_0 C (g_RTi C.1.1 C.1.2.1 hr hlocks hA)  Z hl h
def r_J7_fill_53178 : Room := { frames := 0, cells := 0, slots := 0, locals := 0 }
set_option maxRecDepth 20000 in
theorem w_J7_fill_53178_5 {p : Program} {l : Launch} {e : Env} {s : State} {m : MethodId} {args : Array Value} {below : List Frame} {meth : Method} {c : Code} {Q : State → Prop} {D : va_G} {kc : Nat → ClassId} {ad : Nat → Nat} {A : Nat → Prop} {adK adV : Nat → Nat} (C : Cx (eC adK adV) p s m args c cJ7_fill_53178 4 RJ7 D kc A) {R : St} {a0 : Nat} {x1 : Int32} {x3 : Int32} (hR : RTv 0 0 p l e r_J7_fill_53178 s m args below meth c cJ7_fill_53178 tC kc ad D A Q R) (ha0 : isArr tC 0 a0) : ∀ (n : Nat) (x2 : Int32) (σ : St) (H : Heap) (locs : List Loc) (ls : Array Slot), Dy tC kc ad D A s.heap σ H locs → lv_has ls 4 [(0, .ref (ad a0)), (1, .int x1), (2, .int x2), (3, .int x3)] → f_J7_fill_53178_5 a0 x1 x3 n x2 σ = some R → W p l e r_J7_fill_53178 s m args below meth c H locs 0 0 Q (F0 m 5 ls []) := by
  have hx := C.1.1
  have hb := C.1.2.1
  intro n
  induction n with
  | zero =>
    intro x2 σ H locs ls Z hl h
    exact absurd (show none = some R from h) (by simp)
  | succ n ih =>
    intro x2 σ H locs ls Z hl h
    rw [f_J7_fill_53178_5] at h
    refine lv_iload_n hx hb dJ7_fill_53178_5 rfl (lv_at hl 2 rfl) ?_
    refine lv_iload_n hx hb dJ7_fill_53178_6 rfl (lv_at hl 3 rfl) ?_
    refine lv_icmp_ge (tgt := 20) hx hb dJ7_fill_53178_7 (by decide) (fun c7 => ?_) (fun c7 => ?_)
    · have h := ip h c7
      obtain rfl := Option.some.inj h
      exact hR _ _ _ _ Z dJ7_fill_53178_20
    · have h := im h c7
      refine lv_aload_n hx hb dJ7_fill_53178_10 rfl (lv_at hl 0 rfl) ?_
      refine lv_iload_n hx hb dJ7_fill_53178_11 rfl (lv_at hl 2 rfl) ?_
      refine lv_iload_n hx hb dJ7_fill_53178_12 rfl (lv_at hl 1 rfl) ?_
      obtain ⟨σ8, hσ8, h⟩ := ob h
      refine g_iast C Z ha0 hσ8 dJ7_fill_53178_13 (fun H locs Z => ?_)
      obtain ⟨v9, ev9, h⟩ := lb h
      refine lv_iinc (v := v9) (lv' := [(2, .int v9), (0, .ref (ad a0)), (1, .int x1), (3, .int x3)]) hx hb dJ7_fill_53178_14 hl (k := 2) rfl (by rw [ev9]; rfl) (by decide) rfl (fun ls hl => ?_)
      refine lv_goto (tgt := 5) hx hb dJ7_fill_53178_17 (by decide) ?_
      exact ih _ _ _ _ _ Z (lv_sub hl [1, 2, 0, 3] rfl) h
set_option maxRecDepth 20000 in
theorem w_J7_fill_53178_0 {p : Program} {l : Launch} {e : Env} {s : State} {m : MethodId} {args : Array Value} {below : List Frame} {meth : Method} {c : Code} {Q : State → Prop} {D : va_G} {kc : Nat → ClassId} {ad : Nat → Nat} {A : Nat → Prop} {adK adV : Nat → Nat} (C : Cx (eC adK adV) p s m args c cJ7_fill_53178 4 RJ7 D kc A) {R : St} {a0 : Nat} {x1 : Int32} {σ : St} (hR : RTv 0 0 p l e r_J7_fill_53178 s m args below meth c cJ7_fill_53178 tC kc ad D A Q R) (ha0 : isArr tC 0 a0) {H : Heap} {locs : List Loc} {ls : Array Slot} (Z : Dy tC kc ad D A s.heap σ H locs) (hl : lv_has ls 4 [(0, .ref (ad a0)), (1, .int x1)]) (h : f_J7_fill_53178 a0 x1 σ = some R) : W p l e r_J7_fill_53178 s m args below meth c H locs 0 0 Q (F0 m 0 ls []) := by
  have hx := C.1.1
  have hb := C.1.2.1
  unfold f_J7_fill_53178 at h
  refine lv_iconst (v := 0) hx hb dJ7_fill_53178_0 (by decide) ?_
  refine lv_istore_n (lv' := [(2, .int 0), (0, .ref (ad a0)), (1, .int x1)]) hx hb dJ7_fill_53178_1 rfl hl (by decide) rfl (fun ls hl => ?_)
  refine lv_aload_n hx hb dJ7_fill_53178_2 rfl (lv_at hl 1 rfl) ?_
  refine g_len C Z ha0 (by decide) (v := lenI tC σ a0) rfl dJ7_fill_53178_3 ?_
  obtain ⟨v7, ev7, h⟩ := lb h
  refine tn_i ev7 ?_
  refine lv_istore_n (lv' := [(3, .int v7), (2, .int 0), (0, .ref (ad a0)), (1, .int x1)]) hx hb dJ7_fill_53178_4 rfl hl (by decide) rfl (fun ls hl => ?_)
  exact w_J7_fill_53178_5 C hR ha0 _ _ _ _ _ _ Z (lv_sub hl [2, 3, 1, 0] rfl) h
theorem k_J7_fill_53178 {l : Launch} {kc : Nat → ClassId} {ad : Nat → Nat} {D : va_G} {adK adV : Nat → Nat} {a0 : Nat} (ha0 : isArr tC 0 a0) {x1 : Int32} {σ : St} {R : St} (h : f_J7_fill_53178 a0 x1 σ = some R) : KC (eC adK adV) tC kc ad D l yJ7_fill_53178 (.code yJ7_fill_53178 cJ7_fill_53178 4 none) r_J7_fill_53178 [.ref (ad a0), .int x1] none σ R := by
  refine g_enter (by decide) (Nat.le_of_ble_eq_true rfl) ?_
  intro p e s m args below meth c A hA C hr hlocks Z ls hl
  have hl : lv_has ls 4 [(0, .ref (ad a0)), (1, .int x1)] := hl
  exact w_J7_fill_53178_0 C (g_RTv C.1.1 C.1.2.1 hr hlocks hA) ha0 Z hl h
def r_X1_layCell : Room := { frames := 1, cells := 0, slots := 0, locals := 22 }
set_option maxRecDepth 20000 in
theorem w_X1_layCell_0 {p : Program} {l : Launch} {e : Env} {s : State} {m : MethodId} {args : Array Value} {below : List Frame} {meth : Method} {c : Code} {Q : State → Prop} {D : va_G} {kc : Nat → ClassId} {ad : Nat → Nat} {A : Nat → Prop} {adK adV : Nat → Nat} (C : Cx (eC adK adV) p s m args c cX1_layCell 5 RX1 D kc A) {R : St} {x1 : Int32} {x2 : Int32} {x3 : Int32} {σ : St} (hR : RTv 0 0 p l e r_X1_layCell s m args below meth c cX1_layCell tC kc ad D A Q R) {H : Heap} {locs : List Loc} {ls : Array Slot} (Z : Dy tC kc ad D A s.heap σ H locs) (hl : lv_has ls 5 [(0, .ref (ad 6)), (1, .int x1), (2, .int x2), (3, .int x3)]) (h : f_X1_layCell x1 x2 x3 σ = some R) : W p l e r_X1_layCell s m args below meth c H locs 0 0 Q (F0 m 0 ls []) := by
  have hx := C.1.1
  have hb := C.1.2.1
  unfold f_X1_layCell at h
  refine lv_aload_n hx hb dX1_layCell_0 rfl (lv_at hl 0 rfl) ?_
  refine rg_X1_28 C Z dX1_layCell_1 ?_
  refine lv_iload_n hx hb dX1_layCell_4 rfl (lv_at hl 2 rfl) ?_
  refine lv_imul hx hb dX1_layCell_5 ?_
  refine lv_iload_n hx hb dX1_layCell_6 rfl (lv_at hl 1 rfl) ?_
  refine lv_iadd hx hb dX1_layCell_7 ?_
  obtain ⟨v17, ev17, h⟩ := lb h
  refine tn_i ev17 ?_
  refine lv_istore (lv' := [(4, .int v17), (0, .ref (ad 6)), (1, .int x1), (2, .int x2), (3, .int x3)]) hx hb dX1_layCell_8 hl (by decide) rfl (fun ls hl => ?_)
  refine lv_iload hx hb dX1_layCell_10 (lv_at hl 0 rfl) ?_
  refine lv_iconst (v := 0) hx hb dX1_layCell_12 (by decide) ?_
  refine lv_bipush (v := 24) hx hb dX1_layCell_13 (by decide) ?_
  refine g_callNi (eC_ok adK adV) C Z (k_X10_lies v17 0 24 σ) (C.2.2.2.1 _ nw_X1_65) lkn_X10_lies hl (by decide) rfl (Nat.le_of_ble_eq_true rfl) (rest := []) rfl dX1_layCell_15 (fun H locs Z => ?_)
  refine lv_if_ne (tgt := 22) hx hb dX1_layCell_18 (by decide) (fun c18 => ?_) (fun c18 => ?_)
  · have h := im h c18
    refine lv_aload_n hx hb dX1_layCell_22 rfl (lv_at hl 1 rfl) ?_
    refine lv_dup hx hb dX1_layCell_23 rfl ?_
    refine rg_X1_43 C Z dX1_layCell_24 ?_
    refine lv_iload_n hx hb dX1_layCell_27 rfl (lv_at hl 2 rfl) ?_
    obtain ⟨v18, ev18, h⟩ := lb h
    have hj : W p l e r_X1_layCell s m args below meth c H locs 0 0 Q (F0 m 39 ls [.int v18, .int (gF σ 605), .ref (ad 6)]) := by
      refine lv_ior hx hb dX1_layCell_39 ?_
      obtain ⟨σ19, eσ19, h⟩ := lb h
      refine rp_X1_43 C Z eσ19 dX1_layCell_40 (fun H locs Z => ?_)
      refine lv_aload_n hx hb dX1_layCell_43 rfl (lv_at hl 1 rfl) ?_
      refine lv_dup hx hb dX1_layCell_44 rfl ?_
      refine rg_X1_46 C Z dX1_layCell_45 ?_
      refine lv_iload_n hx hb dX1_layCell_48 rfl (lv_at hl 2 rfl) ?_
      refine lv_aload_n hx hb dX1_layCell_49 rfl (lv_at hl 1 rfl) ?_
      refine rg_X1_28 C Z dX1_layCell_50 ?_
      refine lv_iconst (v := 1) hx hb dX1_layCell_53 (by decide) ?_
      refine lv_isub hx hb dX1_layCell_54 ?_
      obtain ⟨v20, ev20, h⟩ := lb h
      have hj : W p l e r_X1_layCell s m args below meth c H locs 0 0 Q (F0 m 66 ls [.int v20, .int (gF σ19 606), .ref (ad 6)]) := by
        refine lv_ior hx hb dX1_layCell_66 ?_
        obtain ⟨σ21, eσ21, h⟩ := lb h
        refine rp_X1_46 C Z eσ21 dX1_layCell_67 (fun H locs Z => ?_)
        refine lv_aload_n hx hb dX1_layCell_70 rfl (lv_at hl 1 rfl) ?_
        refine rg_X1_11 C Z dX1_layCell_71 ?_
        refine lv_iload hx hb dX1_layCell_74 (lv_at hl 0 rfl) ?_
        refine lv_iconst (v := 5) hx hb dX1_layCell_76 (by decide) ?_
        refine lv_imul hx hb dX1_layCell_77 ?_
        refine lv_iload_n hx hb dX1_layCell_78 rfl (lv_at hl 3 rfl) ?_
        obtain ⟨v22, ev22, h⟩ := lb h
        have hj : W p l e r_X1_layCell s m args below meth c H locs 0 0 Q (F0 m 93 ls [.int v22, .int (v17 * 5), .ref (ad 46)]) := by
          obtain ⟨σ23, hσ23, h⟩ := ob h
          refine g_iast C Z iaC46 hσ23 dX1_layCell_93 (fun H locs Z => ?_)
          refine lv_aload_n hx hb dX1_layCell_94 rfl (lv_at hl 1 rfl) ?_
          refine rg_X1_11 C Z dX1_layCell_95 ?_
          refine lv_iload hx hb dX1_layCell_98 (lv_at hl 0 rfl) ?_
          refine lv_iconst (v := 5) hx hb dX1_layCell_100 (by decide) ?_
          refine lv_imul hx hb dX1_layCell_101 ?_
          refine lv_iconst (v := 1) hx hb dX1_layCell_102 (by decide) ?_
          refine lv_iadd hx hb dX1_layCell_103 ?_
          refine lv_iload_n hx hb dX1_layCell_104 rfl (lv_at hl 2 rfl) ?_
          obtain ⟨v24, ev24, h⟩ := lb h
          have hj : W p l e r_X1_layCell s m args below meth c H locs 0 0 Q (F0 m 116 ls [.int v24, .int ((v17 * 5) + 1), .ref (ad 46)]) := by
            obtain ⟨σ25, hσ25, h⟩ := ob h
            refine g_iast C Z iaC46 hσ25 dX1_layCell_116 (fun H locs Z => ?_)
            refine lv_aload_n hx hb dX1_layCell_117 rfl (lv_at hl 1 rfl) ?_
            refine rg_X1_11 C Z dX1_layCell_118 ?_
            refine lv_iload hx hb dX1_layCell_121 (lv_at hl 0 rfl) ?_
            refine lv_iconst (v := 5) hx hb dX1_layCell_123 (by decide) ?_
            refine lv_imul hx hb dX1_layCell_124 ?_
            refine lv_iconst (v := 2) hx hb dX1_layCell_125 (by decide) ?_
            refine lv_iadd hx hb dX1_layCell_126 ?_
            refine lv_iload hx hb dX1_layCell_127 (lv_at hl 0 rfl) ?_
            obtain ⟨σ26, hσ26, h⟩ := ob h
            refine g_iast C Z iaC46 hσ26 dX1_layCell_129 (fun H locs Z => ?_)
            refine lv_aload_n hx hb dX1_layCell_130 rfl (lv_at hl 1 rfl) ?_
            refine rg_X1_11 C Z dX1_layCell_131 ?_
            refine lv_iload hx hb dX1_layCell_134 (lv_at hl 0 rfl) ?_
            refine lv_iconst (v := 5) hx hb dX1_layCell_136 (by decide) ?_
            refine lv_imul hx hb dX1_layCell_137 ?_
            refine lv_iconst (v := 3) hx hb dX1_layCell_138 (by decide) ?_
            refine lv_iadd hx hb dX1_layCell_139 ?_
            refine lv_iload_n hx hb dX1_layCell_140 rfl (lv_at hl 2 rfl) ?_
            refine lv_aload_n hx hb dX1_layCell_141 rfl (lv_at hl 1 rfl) ?_
            refine rg_X1_28 C Z dX1_layCell_142 ?_
            refine lv_iconst (v := 1) hx hb dX1_layCell_145 (by decide) ?_
            refine lv_isub hx hb dX1_layCell_146 ?_
            obtain ⟨v27, ev27, h⟩ := lb h
            have hj : W p l e r_X1_layCell s m args below meth c H locs 0 0 Q (F0 m 158 ls [.int v27, .int ((v17 * 5) + 3), .ref (ad 46)]) := by
              obtain ⟨σ28, hσ28, h⟩ := ob h
              refine g_iast C Z iaC46 hσ28 dX1_layCell_158 (fun H locs Z => ?_)
              refine lv_aload_n hx hb dX1_layCell_159 rfl (lv_at hl 1 rfl) ?_
              refine rg_X1_11 C Z dX1_layCell_160 ?_
              refine lv_iload hx hb dX1_layCell_163 (lv_at hl 0 rfl) ?_
              refine lv_iconst (v := 5) hx hb dX1_layCell_165 (by decide) ?_
              refine lv_imul hx hb dX1_layCell_166 ?_
              refine lv_iconst (v := 4) hx hb dX1_layCell_167 (by decide) ?_
              refine lv_iadd hx hb dX1_layCell_168 ?_
              refine lv_iload_n hx hb dX1_layCell_169 rfl (lv_at hl 3 rfl) ?_
              refine lv_iload_n hx hb dX1_layCell_170 rfl (lv_at hl 4 rfl) ?_
              refine lv_iconst (v := 1) hx hb dX1_layCell_171 (by decide) ?_
              refine lv_isub hx hb dX1_layCell_172 ?_
              obtain ⟨v29, ev29, h⟩ := lb h
              have hj : W p l e r_X1_layCell s m args below meth c H locs 0 0 Q (F0 m 187 ls [.int v29, .int ((v17 * 5) + 4), .ref (ad 46)]) := by
                obtain ⟨σ30, hσ30, h⟩ := ob h
                refine g_iast C Z iaC46 hσ30 dX1_layCell_187 (fun H locs Z => ?_)
                obtain rfl := Option.some.inj h
                exact hR _ _ _ _ Z dX1_layCell_188
              refine lv_icmp_ge (tgt := 186) hx hb dX1_layCell_173 (by decide) (fun c173 => ?_) (fun c173 => ?_)
              · rw [if_pos c173] at ev29
                refine lv_iconst (v := (-1)) hx hb dX1_layCell_186 (by decide) ?_
                exact tn_i ev29 hj
              · rw [if_neg c173] at ev29
                refine lv_iload hx hb dX1_layCell_176 (lv_at hl 0 rfl) ?_
                refine lv_aload_n hx hb dX1_layCell_178 rfl (lv_at hl 1 rfl) ?_
                refine rg_X1_28 C Z dX1_layCell_179 ?_
                refine lv_iadd hx hb dX1_layCell_182 ?_
                refine lv_goto (tgt := 187) hx hb dX1_layCell_183 (by decide) ?_
                exact tn_i ev29 hj
            refine lv_icmp_ge (tgt := 157) hx hb dX1_layCell_147 (by decide) (fun c147 => ?_) (fun c147 => ?_)
            · rw [if_pos c147] at ev27
              refine lv_iconst (v := (-1)) hx hb dX1_layCell_157 (by decide) ?_
              exact tn_i ev27 hj
            · rw [if_neg c147] at ev27
              refine lv_iload hx hb dX1_layCell_150 (lv_at hl 0 rfl) ?_
              refine lv_iconst (v := 1) hx hb dX1_layCell_152 (by decide) ?_
              refine lv_iadd hx hb dX1_layCell_153 ?_
              refine lv_goto (tgt := 158) hx hb dX1_layCell_154 (by decide) ?_
              exact tn_i ev27 hj
          refine lv_if_le (tgt := 115) hx hb dX1_layCell_105 (by decide) (fun c105 => ?_) (fun c105 => ?_)
          · rw [if_pos c105] at ev24
            refine lv_iconst (v := (-1)) hx hb dX1_layCell_115 (by decide) ?_
            exact tn_i ev24 hj
          · rw [if_neg c105] at ev24
            refine lv_iload hx hb dX1_layCell_108 (lv_at hl 0 rfl) ?_
            refine lv_iconst (v := 1) hx hb dX1_layCell_110 (by decide) ?_
            refine lv_isub hx hb dX1_layCell_111 ?_
            refine lv_goto (tgt := 116) hx hb dX1_layCell_112 (by decide) ?_
            exact tn_i ev24 hj
        refine lv_if_le (tgt := 92) hx hb dX1_layCell_79 (by decide) (fun c79 => ?_) (fun c79 => ?_)
        · rw [if_pos c79] at ev22
          refine lv_iconst (v := (-1)) hx hb dX1_layCell_92 (by decide) ?_
          exact tn_i ev22 hj
        · rw [if_neg c79] at ev22
          refine lv_iload hx hb dX1_layCell_82 (lv_at hl 0 rfl) ?_
          refine lv_aload_n hx hb dX1_layCell_84 rfl (lv_at hl 1 rfl) ?_
          refine rg_X1_28 C Z dX1_layCell_85 ?_
          refine lv_isub hx hb dX1_layCell_88 ?_
          refine lv_goto (tgt := 93) hx hb dX1_layCell_89 (by decide) ?_
          exact tn_i ev22 hj
      refine lv_icmp_ge (tgt := 65) hx hb dX1_layCell_55 (by decide) (fun c55 => ?_) (fun c55 => ?_)
      · rw [if_pos c55] at ev20
        refine lv_iconst (v := 0) hx hb dX1_layCell_65 (by decide) ?_
        exact tn_i ev20 hj
      · rw [if_neg c55] at ev20
        refine lv_iconst (v := 1) hx hb dX1_layCell_58 (by decide) ?_
        refine lv_iload hx hb dX1_layCell_59 (lv_at hl 0 rfl) ?_
        refine lv_ishl hx hb dX1_layCell_61 ?_
        refine lv_goto (tgt := 66) hx hb dX1_layCell_62 (by decide) ?_
        exact tn_i ev20 hj
    refine lv_if_le (tgt := 38) hx hb dX1_layCell_28 (by decide) (fun c28 => ?_) (fun c28 => ?_)
    · rw [if_pos c28] at ev18
      refine lv_iconst (v := 0) hx hb dX1_layCell_38 (by decide) ?_
      exact tn_i ev18 hj
    · rw [if_neg c28] at ev18
      refine lv_iconst (v := 1) hx hb dX1_layCell_31 (by decide) ?_
      refine lv_iload hx hb dX1_layCell_32 (lv_at hl 0 rfl) ?_
      refine lv_ishl hx hb dX1_layCell_34 ?_
      refine lv_goto (tgt := 39) hx hb dX1_layCell_35 (by decide) ?_
      exact tn_i ev18 hj
  · have h := ip h c18
    obtain rfl := Option.some.inj h
    exact hR _ _ _ _ Z dX1_layCell_21
theorem k_X1_layCell {l : Launch} {kc : Nat → ClassId} {ad : Nat → Nat} {D : va_G} {adK adV : Nat → Nat} {x1 : Int32} {x2 : Int32} {x3 : Int32} {σ : St} {R : St} (h : f_X1_layCell x1 x2 x3 σ = some R) : KC (eC adK adV) tC kc ad D l yX1_layCell (.code yX1_layCell cX1_layCell 5 none) r_X1_layCell [.ref (ad 6), .int x1, .int x2, .int x3] none σ R := by
  refine g_enter (by decide) (Nat.le_of_ble_eq_true rfl) ?_
  intro p e s m args below meth c A hA C hr hlocks Z ls hl
  have hl : lv_has ls 5 [(0, .ref (ad 6)), (1, .int x1), (2, .int x2), (3, .int x3)] := hl
  exact w_X1_layCell_0 C (g_RTv C.1.1 C.1.2.1 hr hlocks hA)  Z hl h
def r_X1_lay : Room := { frames := 2, cells := 0, slots := 0, locals := 46 }
set_option maxRecDepth 20000 in
theorem w_X1_lay_122 {p : Program} {l : Launch} {e : Env} {s : State} {m : MethodId} {args : Array Value} {below : List Frame} {meth : Method} {c : Code} {Q : State → Prop} {D : va_G} {kc : Nat → ClassId} {ad : Nat → Nat} {A : Nat → Prop} {adK adV : Nat → Nat} (C : Cx (eC adK adV) p s m args c cX1_lay 6 RX1 D kc A) {R : St} {x1 : Int32} {x2 : Int32} {x4 : Int32} {σ : St} (hR : RTv 0 0 p l e r_X1_lay s m args below meth c cX1_lay tC kc ad D A Q R) {k92 : Int32 → St → Option (St)} (hk92 : ∀ (x4 : Int32) (σ : St) (H : Heap) (locs : List Loc) (ls : Array Slot), Dy tC kc ad D A s.heap σ H locs → lv_has ls 6 [(0, .ref (ad 6)), (1, .int x1), (2, .int x2), (4, .int x4)] → k92 x4 σ = some R → W p l e r_X1_lay s m args below meth c H locs 0 0 Q (F0 m 92 ls [])) {H : Heap} {locs : List Loc} {ls : Array Slot} (Z : Dy tC kc ad D A s.heap σ H locs) (hl : lv_has ls 6 [(0, .ref (ad 6)), (1, .int x1), (2, .int x2), (4, .int x4)]) (h : f_X1_lay_122 x1 x2 x4 σ k92 = some R) : W p l e r_X1_lay s m args below meth c H locs 0 0 Q (F0 m 122 ls []) := by
  have hx := C.1.1
  have hb := C.1.2.1
  unfold f_X1_lay_122 at h
  obtain ⟨v38, ev38, h⟩ := lb h
  refine lv_iinc (v := v38) (lv' := [(4, .int v38), (0, .ref (ad 6)), (1, .int x1), (2, .int x2)]) hx hb dX1_lay_122 hl (k := 3) rfl (by rw [ev38]; rfl) (by decide) rfl (fun ls hl => ?_)
  refine lv_goto (tgt := 92) hx hb dX1_lay_125 (by decide) ?_
  exact hk92 _ _ _ _ _ Z (lv_sub hl [1, 2, 3, 0] rfl) h
set_option maxRecDepth 20000 in
theorem w_X1_lay_101 {p : Program} {l : Launch} {e : Env} {s : State} {m : MethodId} {args : Array Value} {below : List Frame} {meth : Method} {c : Code} {Q : State → Prop} {D : va_G} {kc : Nat → ClassId} {ad : Nat → Nat} {A : Nat → Prop} {adK adV : Nat → Nat} (C : Cx (eC adK adV) p s m args c cX1_lay 6 RX1 D kc A) {R : St} {x1 : Int32} {x2 : Int32} {x4 : Int32} (hR : RTv 0 0 p l e r_X1_lay s m args below meth c cX1_lay tC kc ad D A Q R) {k92 : Int32 → St → Option (St)} (hk92 : ∀ (x4 : Int32) (σ : St) (H : Heap) (locs : List Loc) (ls : Array Slot), Dy tC kc ad D A s.heap σ H locs → lv_has ls 6 [(0, .ref (ad 6)), (1, .int x1), (2, .int x2), (4, .int x4)] → k92 x4 σ = some R → W p l e r_X1_lay s m args below meth c H locs 0 0 Q (F0 m 92 ls [])) : ∀ (n : Nat) (x5 : Int32) (σ : St) (H : Heap) (locs : List Loc) (ls : Array Slot), Dy tC kc ad D A s.heap σ H locs → lv_has ls 6 [(0, .ref (ad 6)), (1, .int x1), (2, .int x2), (4, .int x4), (5, .int x5)] → f_X1_lay_101 x1 x2 x4 k92 n x5 σ = some R → W p l e r_X1_lay s m args below meth c H locs 0 0 Q (F0 m 101 ls []) := by
  have hx := C.1.1
  have hb := C.1.2.1
  intro n
  induction n with
  | zero =>
    intro x5 σ H locs ls Z hl h
    exact absurd (show none = some R from h) (by simp)
  | succ n ih =>
    intro x5 σ H locs ls Z hl h
    rw [f_X1_lay_101] at h
    refine lv_iload hx hb dX1_lay_101 (lv_at hl 4 rfl) ?_
    refine lv_iload_n hx hb dX1_lay_103 rfl (lv_at hl 1 rfl) ?_
    refine lv_icmp_ge (tgt := 122) hx hb dX1_lay_104 (by decide) (fun c104 => ?_) (fun c104 => ?_)
    · have h := ip h c104
      exact w_X1_lay_122 C hR hk92 Z (lv_sub hl [0, 1, 2, 3] rfl) h
    · have h := im h c104
      refine lv_aload_n hx hb dX1_lay_107 rfl (lv_at hl 0 rfl) ?_
      refine lv_iload hx hb dX1_lay_108 (lv_at hl 4 rfl) ?_
      refine lv_iload hx hb dX1_lay_110 (lv_at hl 3 rfl) ?_
      refine lv_iload_n hx hb dX1_lay_112 rfl (lv_at hl 2 rfl) ?_
      obtain ⟨σ36, hσ36, h⟩ := ob h
      refine g_callVv (eC_ok adK adV) C Z (k_X1_layCell hσ36) lk_X1_61 (by decide) rfl rfl hl (by decide) rfl (Nat.le_of_ble_eq_true rfl) (rest := []) rfl dX1_lay_113 (fun H locs Z => ?_)
      obtain ⟨v37, ev37, h⟩ := lb h
      refine lv_iinc (v := v37) (lv' := [(5, .int v37), (0, .ref (ad 6)), (1, .int x1), (2, .int x2), (4, .int x4)]) hx hb dX1_lay_116 hl (k := 4) rfl (by rw [ev37]; rfl) (by decide) rfl (fun ls hl => ?_)
      refine lv_goto (tgt := 101) hx hb dX1_lay_119 (by decide) ?_
      exact ih _ _ _ _ _ Z (lv_sub hl [1, 2, 3, 4, 0] rfl) h
set_option maxRecDepth 20000 in
theorem w_X1_lay_92 {p : Program} {l : Launch} {e : Env} {s : State} {m : MethodId} {args : Array Value} {below : List Frame} {meth : Method} {c : Code} {Q : State → Prop} {D : va_G} {kc : Nat → ClassId} {ad : Nat → Nat} {A : Nat → Prop} {adK adV : Nat → Nat} (C : Cx (eC adK adV) p s m args c cX1_lay 6 RX1 D kc A) {R : St} {x1 : Int32} {x2 : Int32} (hR : RTv 0 0 p l e r_X1_lay s m args below meth c cX1_lay tC kc ad D A Q R) : ∀ (n : Nat) (x4 : Int32) (σ : St) (H : Heap) (locs : List Loc) (ls : Array Slot), Dy tC kc ad D A s.heap σ H locs → lv_has ls 6 [(0, .ref (ad 6)), (1, .int x1), (2, .int x2), (4, .int x4)] → f_X1_lay_92 x1 x2 n x4 σ = some R → W p l e r_X1_lay s m args below meth c H locs 0 0 Q (F0 m 92 ls []) := by
  have hx := C.1.1
  have hb := C.1.2.1
  intro n
  induction n with
  | zero =>
    intro x4 σ H locs ls Z hl h
    exact absurd (show none = some R from h) (by simp)
  | succ n ih =>
    intro x4 σ H locs ls Z hl h
    rw [f_X1_lay_92] at h
    refine lv_iload hx hb dX1_lay_92 (lv_at hl 3 rfl) ?_
    refine lv_iload_n hx hb dX1_lay_94 rfl (lv_at hl 2 rfl) ?_
    refine lv_icmp_ge (tgt := 128) hx hb dX1_lay_95 (by decide) (fun c95 => ?_) (fun c95 => ?_)
    · have h := ip h c95
      obtain rfl := Option.some.inj h
      exact hR _ _ _ _ Z dX1_lay_128
    · have h := im h c95
      refine lv_iconst (v := 0) hx hb dX1_lay_98 (by decide) ?_
      refine lv_istore (lv' := [(5, .int 0), (0, .ref (ad 6)), (1, .int x1), (2, .int x2), (4, .int x4)]) hx hb dX1_lay_99 hl (by decide) rfl (fun ls hl => ?_)
      exact w_X1_lay_101 C hR ih _ _ _ _ _ _ Z (lv_sub hl [1, 2, 3, 4, 0] rfl) h
set_option maxRecDepth 20000 in
theorem w_X1_lay_0 {p : Program} {l : Launch} {e : Env} {s : State} {m : MethodId} {args : Array Value} {below : List Frame} {meth : Method} {c : Code} {Q : State → Prop} {D : va_G} {kc : Nat → ClassId} {ad : Nat → Nat} {A : Nat → Prop} {adK adV : Nat → Nat} (C : Cx (eC adK adV) p s m args c cX1_lay 6 RX1 D kc A) {R : St} {x1 : Int32} {x2 : Int32} {x3 : Int32} {σ : St} (hR : RTv 0 0 p l e r_X1_lay s m args below meth c cX1_lay tC kc ad D A Q R) {H : Heap} {locs : List Loc} {ls : Array Slot} (Z : Dy tC kc ad D A s.heap σ H locs) (hl : lv_has ls 6 [(0, .ref (ad 6)), (1, .int x1), (2, .int x2), (3, .int x3)]) (h : f_X1_lay x1 x2 x3 σ = some R) : W p l e r_X1_lay s m args below meth c H locs 0 0 Q (F0 m 0 ls []) := by
  have hx := C.1.1
  have hb := C.1.2.1
  unfold f_X1_lay at h
  refine lv_aload_n hx hb dX1_lay_0 rfl (lv_at hl 0 rfl) ?_
  refine lv_iload_n hx hb dX1_lay_1 rfl (lv_at hl 1 rfl) ?_
  obtain ⟨σ25, eσ25, h⟩ := lb h
  refine rp_X1_28 C Z eσ25 dX1_lay_2 (fun H locs Z => ?_)
  refine lv_aload_n hx hb dX1_lay_5 rfl (lv_at hl 0 rfl) ?_
  refine lv_iload_n hx hb dX1_lay_6 rfl (lv_at hl 1 rfl) ?_
  refine lv_iload_n hx hb dX1_lay_7 rfl (lv_at hl 2 rfl) ?_
  refine lv_imul hx hb dX1_lay_8 ?_
  refine lv_bipush (v := 25) hx hb dX1_lay_9 (by decide) ?_
  refine g_min_7cf53 C hl wM_X1_31 (by decide) (rest := [.ref (ad 6)]) (Nat.le_of_ble_eq_true rfl) dX1_lay_11 ?_
  obtain ⟨σ26, eσ26, h⟩ := lb h
  refine rp_X1_37 C Z eσ26 dX1_lay_14 (fun H locs Z => ?_)
  refine lv_aload_n hx hb dX1_lay_17 rfl (lv_at hl 0 rfl) ?_
  refine lv_iconst (v := 1) hx hb dX1_lay_18 (by decide) ?_
  refine lv_aload_n hx hb dX1_lay_19 rfl (lv_at hl 0 rfl) ?_
  refine rg_X1_37 C Z dX1_lay_20 ?_
  refine lv_ishl hx hb dX1_lay_23 ?_
  refine lv_iconst (v := 1) hx hb dX1_lay_24 (by decide) ?_
  refine lv_isub hx hb dX1_lay_25 ?_
  obtain ⟨σ27, eσ27, h⟩ := lb h
  refine rp_X1_40 C Z eσ27 dX1_lay_26 (fun H locs Z => ?_)
  refine lv_aload_n hx hb dX1_lay_29 rfl (lv_at hl 0 rfl) ?_
  refine lv_iconst (v := 0) hx hb dX1_lay_30 (by decide) ?_
  obtain ⟨σ28, eσ28, h⟩ := lb h
  refine rp_X1_43 C Z eσ28 dX1_lay_31 (fun H locs Z => ?_)
  refine lv_aload_n hx hb dX1_lay_34 rfl (lv_at hl 0 rfl) ?_
  refine lv_iconst (v := 0) hx hb dX1_lay_35 (by decide) ?_
  obtain ⟨σ29, eσ29, h⟩ := lb h
  refine rp_X1_46 C Z eσ29 dX1_lay_36 (fun H locs Z => ?_)
  refine lv_aload_n hx hb dX1_lay_39 rfl (lv_at hl 0 rfl) ?_
  refine lv_iload_n hx hb dX1_lay_40 rfl (lv_at hl 3 rfl) ?_
  obtain ⟨v30, ev30, h⟩ := lb h
  have hj : W p l e r_X1_lay s m args below meth c H locs 0 0 Q (F0 m 50 ls [.int v30, .ref (ad 6)]) := by
    obtain ⟨σ31, eσ31, h⟩ := lb h
    refine rp_X1_49 C Z eσ31 dX1_lay_50 (fun H locs Z => ?_)
    refine lv_aload_n hx hb dX1_lay_53 rfl (lv_at hl 0 rfl) ?_
    refine lv_iload_n hx hb dX1_lay_54 rfl (lv_at hl 3 rfl) ?_
    obtain ⟨v32, ev32, h⟩ := lb h
    have hj : W p l e r_X1_lay s m args below meth c H locs 0 0 Q (F0 m 69 ls [.int v32, .ref (ad 6)]) := by
      obtain ⟨σ33, eσ33, h⟩ := lb h
      refine rp_X1_52 C Z eσ33 dX1_lay_69 (fun H locs Z => ?_)
      refine lv_aload_n hx hb dX1_lay_72 rfl (lv_at hl 0 rfl) ?_
      refine rg_X1_11 C Z dX1_lay_73 ?_
      refine lv_iconst (v := (-1)) hx hb dX1_lay_76 (by decide) ?_
      obtain ⟨σ34, hσ34, h⟩ := ob h
      refine g_callSv (eC_ok adK adV) C Z (k_J7_fill_53178 iaC46 hσ34) lk_X1_55 hl (by decide) rfl (Nat.le_of_ble_eq_true rfl) (rest := []) rfl dX1_lay_77 (fun H locs Z => ?_)
      refine lv_aload_n hx hb dX1_lay_80 rfl (lv_at hl 0 rfl) ?_
      refine rg_X1_11 C Z dX1_lay_81 ?_
      refine lv_bipush (v := 127) hx hb dX1_lay_84 (by decide) ?_
      refine lv_bipush (v := 25) hx hb dX1_lay_86 (by decide) ?_
      obtain ⟨σ35, hσ35, h⟩ := ob h
      refine g_iast C Z iaC46 hσ35 dX1_lay_88 (fun H locs Z => ?_)
      refine lv_iconst (v := 0) hx hb dX1_lay_89 (by decide) ?_
      refine lv_istore (lv' := [(4, .int 0), (0, .ref (ad 6)), (1, .int x1), (2, .int x2), (3, .int x3)]) hx hb dX1_lay_90 hl (by decide) rfl (fun ls hl => ?_)
      exact w_X1_lay_92 C hR _ _ _ _ _ _ Z (lv_sub hl [1, 2, 3, 0] rfl) h
    refine lv_if_eq (tgt := 67) hx hb dX1_lay_55 (by decide) (fun c55 => ?_) (fun c55 => ?_)
    · rw [if_pos c55] at ev32
      refine lv_bipush (v := 25) hx hb dX1_lay_67 (by decide) ?_
      exact tn_i ev32 hj
    · rw [if_neg c55] at ev32
      refine lv_aload_n hx hb dX1_lay_58 rfl (lv_at hl 0 rfl) ?_
      refine rg_X1_37 C Z dX1_lay_59 ?_
      refine lv_iconst (v := 1) hx hb dX1_lay_62 (by decide) ?_
      refine lv_isub hx hb dX1_lay_63 ?_
      refine lv_goto (tgt := 69) hx hb dX1_lay_64 (by decide) ?_
      exact tn_i ev32 hj
  refine lv_if_eq (tgt := 48) hx hb dX1_lay_41 (by decide) (fun c41 => ?_) (fun c41 => ?_)
  · rw [if_pos c41] at ev30
    refine lv_bipush (v := 25) hx hb dX1_lay_48 (by decide) ?_
    exact tn_i ev30 hj
  · rw [if_neg c41] at ev30
    refine lv_iconst (v := 0) hx hb dX1_lay_44 (by decide) ?_
    refine lv_goto (tgt := 50) hx hb dX1_lay_45 (by decide) ?_
    exact tn_i ev30 hj
theorem k_X1_lay {l : Launch} {kc : Nat → ClassId} {ad : Nat → Nat} {D : va_G} {adK adV : Nat → Nat} {x1 : Int32} {x2 : Int32} {x3 : Int32} {σ : St} {R : St} (h : f_X1_lay x1 x2 x3 σ = some R) : KC (eC adK adV) tC kc ad D l yX1_lay (.code yX1_lay cX1_lay 6 none) r_X1_lay [.ref (ad 6), .int x1, .int x2, .int x3] none σ R := by
  refine g_enter (by decide) (Nat.le_of_ble_eq_true rfl) ?_
  intro p e s m args below meth c A hA C hr hlocks Z ls hl
  have hl : lv_has ls 6 [(0, .ref (ad 6)), (1, .int x1), (2, .int x2), (3, .int x3)] := hl
  exact w_X1_lay_0 C (g_RTv C.1.1 C.1.2.1 hr hlocks hA)  Z hl h
def r_X1_beginRows : Room := { frames := 0, cells := 0, slots := 0, locals := 0 }
set_option maxRecDepth 20000 in
theorem w_X1_beginRows_43 {p : Program} {l : Launch} {e : Env} {s : State} {m : MethodId} {args : Array Value} {below : List Frame} {meth : Method} {c : Code} {Q : State → Prop} {D : va_G} {kc : Nat → ClassId} {ad : Nat → Nat} {A : Nat → Prop} {adK adV : Nat → Nat} (C : Cx (eC adK adV) p s m args c cX1_beginRows 3 RX1 D kc A) {R : St} {x1 : Int32} {σ : St} (hR : RTv 0 0 p l e r_X1_beginRows s m args below meth c cX1_beginRows tC kc ad D A Q R) {k5 : Int32 → St → Option (St)} (hk5 : ∀ (x1 : Int32) (σ : St) (H : Heap) (locs : List Loc) (ls : Array Slot), Dy tC kc ad D A s.heap σ H locs → lv_has ls 3 [(0, .ref (ad 6)), (1, .int x1)] → k5 x1 σ = some R → W p l e r_X1_beginRows s m args below meth c H locs 0 0 Q (F0 m 5 ls [])) {H : Heap} {locs : List Loc} {ls : Array Slot} (Z : Dy tC kc ad D A s.heap σ H locs) (hl : lv_has ls 3 [(0, .ref (ad 6)), (1, .int x1)]) (h : f_X1_beginRows_43 x1 σ k5 = some R) : W p l e r_X1_beginRows s m args below meth c H locs 0 0 Q (F0 m 43 ls []) := by
  have hx := C.1.1
  have hb := C.1.2.1
  unfold f_X1_beginRows_43 at h
  obtain ⟨v12, ev12, h⟩ := lb h
  refine lv_iinc (v := v12) (lv' := [(1, .int v12), (0, .ref (ad 6))]) hx hb dX1_beginRows_43 hl (k := 1) rfl (by rw [ev12]; rfl) (by decide) rfl (fun ls hl => ?_)
  refine lv_goto (tgt := 5) hx hb dX1_beginRows_46 (by decide) ?_
  exact hk5 _ _ _ _ _ Z (lv_sub hl [1, 0] rfl) h
set_option maxRecDepth 20000 in
theorem w_X1_beginRows_15 {p : Program} {l : Launch} {e : Env} {s : State} {m : MethodId} {args : Array Value} {below : List Frame} {meth : Method} {c : Code} {Q : State → Prop} {D : va_G} {kc : Nat → ClassId} {ad : Nat → Nat} {A : Nat → Prop} {adK adV : Nat → Nat} (C : Cx (eC adK adV) p s m args c cX1_beginRows 3 RX1 D kc A) {R : St} {x1 : Int32} (hR : RTv 0 0 p l e r_X1_beginRows s m args below meth c cX1_beginRows tC kc ad D A Q R) {k5 : Int32 → St → Option (St)} (hk5 : ∀ (x1 : Int32) (σ : St) (H : Heap) (locs : List Loc) (ls : Array Slot), Dy tC kc ad D A s.heap σ H locs → lv_has ls 3 [(0, .ref (ad 6)), (1, .int x1)] → k5 x1 σ = some R → W p l e r_X1_beginRows s m args below meth c H locs 0 0 Q (F0 m 5 ls [])) : ∀ (n : Nat) (x2 : Int32) (σ : St) (H : Heap) (locs : List Loc) (ls : Array Slot), Dy tC kc ad D A s.heap σ H locs → lv_has ls 3 [(0, .ref (ad 6)), (1, .int x1), (2, .int x2)] → f_X1_beginRows_15 x1 k5 n x2 σ = some R → W p l e r_X1_beginRows s m args below meth c H locs 0 0 Q (F0 m 15 ls []) := by
  have hx := C.1.1
  have hb := C.1.2.1
  intro n
  induction n with
  | zero =>
    intro x2 σ H locs ls Z hl h
    exact absurd (show none = some R from h) (by simp)
  | succ n ih =>
    intro x2 σ H locs ls Z hl h
    rw [f_X1_beginRows_15] at h
    refine lv_iload_n hx hb dX1_beginRows_15 rfl (lv_at hl 2 rfl) ?_
    refine lv_aload_n hx hb dX1_beginRows_16 rfl (lv_at hl 0 rfl) ?_
    refine rg_X1_37 C Z dX1_beginRows_17 ?_
    refine lv_icmp_ge (tgt := 43) hx hb dX1_beginRows_20 (by decide) (fun c20 => ?_) (fun c20 => ?_)
    · have h := ip h c20
      exact w_X1_beginRows_43 C hR hk5 Z (lv_sub hl [0, 1] rfl) h
    · have h := im h c20
      refine lv_aload_n hx hb dX1_beginRows_23 rfl (lv_at hl 0 rfl) ?_
      refine rg_X1_15 C Z dX1_beginRows_24 ?_
      refine lv_iload_n hx hb dX1_beginRows_27 rfl (lv_at hl 1 rfl) ?_
      refine lv_bipush (v := 25) hx hb dX1_beginRows_28 (by decide) ?_
      refine lv_imul hx hb dX1_beginRows_30 ?_
      refine lv_iload_n hx hb dX1_beginRows_31 rfl (lv_at hl 2 rfl) ?_
      refine lv_iadd hx hb dX1_beginRows_32 ?_
      refine lv_iconst (v := 1) hx hb dX1_beginRows_33 (by decide) ?_
      refine lv_iload_n hx hb dX1_beginRows_34 rfl (lv_at hl 2 rfl) ?_
      refine lv_ishl hx hb dX1_beginRows_35 ?_
      obtain ⟨σ10, hσ10, h⟩ := ob h
      refine g_iast C Z iaC47 hσ10 dX1_beginRows_36 (fun H locs Z => ?_)
      obtain ⟨v11, ev11, h⟩ := lb h
      refine lv_iinc (v := v11) (lv' := [(2, .int v11), (0, .ref (ad 6)), (1, .int x1)]) hx hb dX1_beginRows_37 hl (k := 2) rfl (by rw [ev11]; rfl) (by decide) rfl (fun ls hl => ?_)
      refine lv_goto (tgt := 15) hx hb dX1_beginRows_40 (by decide) ?_
      exact ih _ _ _ _ _ Z (lv_sub hl [1, 2, 0] rfl) h
set_option maxRecDepth 20000 in
theorem w_X1_beginRows_5 {p : Program} {l : Launch} {e : Env} {s : State} {m : MethodId} {args : Array Value} {below : List Frame} {meth : Method} {c : Code} {Q : State → Prop} {D : va_G} {kc : Nat → ClassId} {ad : Nat → Nat} {A : Nat → Prop} {adK adV : Nat → Nat} (C : Cx (eC adK adV) p s m args c cX1_beginRows 3 RX1 D kc A) {R : St} (hR : RTv 0 0 p l e r_X1_beginRows s m args below meth c cX1_beginRows tC kc ad D A Q R) : ∀ (n : Nat) (x1 : Int32) (σ : St) (H : Heap) (locs : List Loc) (ls : Array Slot), Dy tC kc ad D A s.heap σ H locs → lv_has ls 3 [(0, .ref (ad 6)), (1, .int x1)] → f_X1_beginRows_5 n x1 σ = some R → W p l e r_X1_beginRows s m args below meth c H locs 0 0 Q (F0 m 5 ls []) := by
  have hx := C.1.1
  have hb := C.1.2.1
  intro n
  induction n with
  | zero =>
    intro x1 σ H locs ls Z hl h
    exact absurd (show none = some R from h) (by simp)
  | succ n ih =>
    intro x1 σ H locs ls Z hl h
    rw [f_X1_beginRows_5] at h
    refine lv_iload_n hx hb dX1_beginRows_5 rfl (lv_at hl 1 rfl) ?_
    refine lv_aload_n hx hb dX1_beginRows_6 rfl (lv_at hl 0 rfl) ?_
    refine rg_X1_52 C Z dX1_beginRows_7 ?_
    refine lv_icmp_gt (tgt := 49) hx hb dX1_beginRows_10 (by decide) (fun c10 => ?_) (fun c10 => ?_)
    · have h := ip h c10
      obtain rfl := Option.some.inj h
      exact hR _ _ _ _ Z dX1_beginRows_49
    · have h := im h c10
      refine lv_iconst (v := 0) hx hb dX1_beginRows_13 (by decide) ?_
      refine lv_istore_n (lv' := [(2, .int 0), (0, .ref (ad 6)), (1, .int x1)]) hx hb dX1_beginRows_14 rfl hl (by decide) rfl (fun ls hl => ?_)
      exact w_X1_beginRows_15 C hR ih _ _ _ _ _ _ Z (lv_sub hl [1, 2, 0] rfl) h
set_option maxRecDepth 20000 in
theorem w_X1_beginRows_0 {p : Program} {l : Launch} {e : Env} {s : State} {m : MethodId} {args : Array Value} {below : List Frame} {meth : Method} {c : Code} {Q : State → Prop} {D : va_G} {kc : Nat → ClassId} {ad : Nat → Nat} {A : Nat → Prop} {adK adV : Nat → Nat} (C : Cx (eC adK adV) p s m args c cX1_beginRows 3 RX1 D kc A) {R : St} {σ : St} (hR : RTv 0 0 p l e r_X1_beginRows s m args below meth c cX1_beginRows tC kc ad D A Q R) {H : Heap} {locs : List Loc} {ls : Array Slot} (Z : Dy tC kc ad D A s.heap σ H locs) (hl : lv_has ls 3 [(0, .ref (ad 6))]) (h : f_X1_beginRows σ = some R) : W p l e r_X1_beginRows s m args below meth c H locs 0 0 Q (F0 m 0 ls []) := by
  have hx := C.1.1
  have hb := C.1.2.1
  unfold f_X1_beginRows at h
  refine lv_aload_n hx hb dX1_beginRows_0 rfl (lv_at hl 0 rfl) ?_
  refine rg_X1_49 C Z dX1_beginRows_1 ?_
  obtain ⟨v9, ev9, h⟩ := lb h
  refine tn_i ev9 ?_
  refine lv_istore_n (lv' := [(1, .int v9), (0, .ref (ad 6))]) hx hb dX1_beginRows_4 rfl hl (by decide) rfl (fun ls hl => ?_)
  exact w_X1_beginRows_5 C hR _ _ _ _ _ _ Z (lv_sub hl [1, 0] rfl) h
theorem k_X1_beginRows {l : Launch} {kc : Nat → ClassId} {ad : Nat → Nat} {D : va_G} {adK adV : Nat → Nat} {σ : St} {R : St} (h : f_X1_beginRows σ = some R) : KC (eC adK adV) tC kc ad D l yX1_beginRows (.code yX1_beginRows cX1_beginRows 3 none) r_X1_beginRows [.ref (ad 6)] none σ R := by
  refine g_enter (by decide) (Nat.le_of_ble_eq_true rfl) ?_
  intro p e s m args below meth c A hA C hr hlocks Z ls hl
  have hl : lv_has ls 3 [(0, .ref (ad 6))] := hl
  exact w_X1_beginRows_0 C (g_RTv C.1.1 C.1.2.1 hr hlocks hA)  Z hl h
def r_X1_moveTrawler : Room := { frames := 0, cells := 0, slots := 0, locals := 0 }
set_option maxRecDepth 20000 in
theorem w_X1_moveTrawler_103 {p : Program} {l : Launch} {e : Env} {s : State} {m : MethodId} {args : Array Value} {below : List Frame} {meth : Method} {c : Code} {Q : State → Prop} {D : va_G} {kc : Nat → ClassId} {ad : Nat → Nat} {A : Nat → Prop} {adK adV : Nat → Nat} (C : Cx (eC adK adV) p s m args c cX1_moveTrawler 5 RX1 D kc A) {R : St} {x1 : Int32} {σ : St} (hR : RTv 0 0 p l e r_X1_moveTrawler s m args below meth c cX1_moveTrawler tC kc ad D A Q R) {k5 : Int32 → St → Option (St)} (hk5 : ∀ (x1 : Int32) (σ : St) (H : Heap) (locs : List Loc) (ls : Array Slot), Dy tC kc ad D A s.heap σ H locs → lv_has ls 5 [(0, .ref (ad 6)), (1, .int x1)] → k5 x1 σ = some R → W p l e r_X1_moveTrawler s m args below meth c H locs 0 0 Q (F0 m 5 ls [])) {H : Heap} {locs : List Loc} {ls : Array Slot} (Z : Dy tC kc ad D A s.heap σ H locs) (hl : lv_has ls 5 [(0, .ref (ad 6)), (1, .int x1)]) (h : f_X1_moveTrawler_103 x1 σ k5 = some R) : W p l e r_X1_moveTrawler s m args below meth c H locs 0 0 Q (F0 m 103 ls []) := by
  have hx := C.1.1
  have hb := C.1.2.1
  unfold f_X1_moveTrawler_103 at h
  obtain ⟨v21, ev21, h⟩ := lb h
  refine lv_iinc (v := v21) (lv' := [(1, .int v21), (0, .ref (ad 6))]) hx hb dX1_moveTrawler_103 hl (k := 1) rfl (by rw [ev21]; rfl) (by decide) rfl (fun ls hl => ?_)
  refine lv_goto (tgt := 5) hx hb dX1_moveTrawler_106 (by decide) ?_
  exact hk5 _ _ _ _ _ Z (lv_sub hl [1, 0] rfl) h
set_option maxRecDepth 20000 in
theorem w_X1_moveTrawler_15 {p : Program} {l : Launch} {e : Env} {s : State} {m : MethodId} {args : Array Value} {below : List Frame} {meth : Method} {c : Code} {Q : State → Prop} {D : va_G} {kc : Nat → ClassId} {ad : Nat → Nat} {A : Nat → Prop} {adK adV : Nat → Nat} (C : Cx (eC adK adV) p s m args c cX1_moveTrawler 5 RX1 D kc A) {R : St} {x1 : Int32} (hR : RTv 0 0 p l e r_X1_moveTrawler s m args below meth c cX1_moveTrawler tC kc ad D A Q R) {k5 : Int32 → St → Option (St)} (hk5 : ∀ (x1 : Int32) (σ : St) (H : Heap) (locs : List Loc) (ls : Array Slot), Dy tC kc ad D A s.heap σ H locs → lv_has ls 5 [(0, .ref (ad 6)), (1, .int x1)] → k5 x1 σ = some R → W p l e r_X1_moveTrawler s m args below meth c H locs 0 0 Q (F0 m 5 ls [])) : ∀ (n : Nat) (x2 : Int32) (σ : St) (H : Heap) (locs : List Loc) (ls : Array Slot), Dy tC kc ad D A s.heap σ H locs → lv_has ls 5 [(0, .ref (ad 6)), (1, .int x1), (2, .int x2)] → f_X1_moveTrawler_15 x1 k5 n x2 σ = some R → W p l e r_X1_moveTrawler s m args below meth c H locs 0 0 Q (F0 m 15 ls []) := by
  have hx := C.1.1
  have hb := C.1.2.1
  intro n
  induction n with
  | zero =>
    intro x2 σ H locs ls Z hl h
    exact absurd (show none = some R from h) (by simp)
  | succ n ih =>
    intro x2 σ H locs ls Z hl h
    rw [f_X1_moveTrawler_15] at h
    refine lv_iload_n hx hb dX1_moveTrawler_15 rfl (lv_at hl 2 rfl) ?_
    refine lv_aload_n hx hb dX1_moveTrawler_16 rfl (lv_at hl 0 rfl) ?_
    refine rg_X1_37 C Z dX1_moveTrawler_17 ?_
    refine lv_icmp_ge (tgt := 103) hx hb dX1_moveTrawler_20 (by decide) (fun c20 => ?_) (fun c20 => ?_)
    · have h := ip h c20
      exact w_X1_moveTrawler_103 C hR hk5 Z (lv_sub hl [0, 1] rfl) h
    · have h := im h c20
      refine lv_aload_n hx hb dX1_moveTrawler_23 rfl (lv_at hl 0 rfl) ?_
      refine rg_X1_40 C Z dX1_moveTrawler_24 ?_
      refine lv_aload_n hx hb dX1_moveTrawler_27 rfl (lv_at hl 0 rfl) ?_
      refine rg_X1_15 C Z dX1_moveTrawler_28 ?_
      refine lv_iload_n hx hb dX1_moveTrawler_31 rfl (lv_at hl 1 rfl) ?_
      refine lv_bipush (v := 25) hx hb dX1_moveTrawler_32 (by decide) ?_
      refine lv_imul hx hb dX1_moveTrawler_34 ?_
      refine lv_iload_n hx hb dX1_moveTrawler_35 rfl (lv_at hl 2 rfl) ?_
      refine lv_iadd hx hb dX1_moveTrawler_36 ?_
      obtain ⟨v16, hv16, h⟩ := ob h
      refine g_iald C Z iaC47 hv16 dX1_moveTrawler_37 ?_
      refine lv_iconst (v := (-1)) hx hb dX1_moveTrawler_38 (by decide) ?_
      refine lv_ixor hx hb dX1_moveTrawler_39 ?_
      refine lv_iand hx hb dX1_moveTrawler_40 ?_
      obtain ⟨v17, ev17, h⟩ := lb h
      refine tn_i ev17 ?_
      refine lv_istore_n (lv' := [(3, .int v17), (0, .ref (ad 6)), (1, .int x1), (2, .int x2)]) hx hb dX1_moveTrawler_41 rfl hl (by decide) rfl (fun ls hl => ?_)
      refine lv_iload_n hx hb dX1_moveTrawler_42 rfl (lv_at hl 0 rfl) ?_
      refine lv_iload_n hx hb dX1_moveTrawler_43 rfl (lv_at hl 0 rfl) ?_
      refine lv_aload_n hx hb dX1_moveTrawler_44 rfl (lv_at hl 1 rfl) ?_
      refine rg_X1_28 C Z dX1_moveTrawler_45 ?_
      refine lv_ishl hx hb dX1_moveTrawler_48 ?_
      refine lv_ior hx hb dX1_moveTrawler_49 ?_
      refine lv_iload_n hx hb dX1_moveTrawler_50 rfl (lv_at hl 0 rfl) ?_
      refine lv_aload_n hx hb dX1_moveTrawler_51 rfl (lv_at hl 1 rfl) ?_
      refine rg_X1_28 C Z dX1_moveTrawler_52 ?_
      refine lv_iushr (v := ushr v17 (gF σ 600)) hx hb dX1_moveTrawler_55 rfl ?_
      refine lv_ior hx hb dX1_moveTrawler_56 ?_
      refine lv_iload_n hx hb dX1_moveTrawler_57 rfl (lv_at hl 0 rfl) ?_
      refine lv_aload_n hx hb dX1_moveTrawler_58 rfl (lv_at hl 1 rfl) ?_
      refine rg_X1_46 C Z dX1_moveTrawler_59 ?_
      refine lv_iand hx hb dX1_moveTrawler_62 ?_
      refine lv_iconst (v := 1) hx hb dX1_moveTrawler_63 (by decide) ?_
      refine lv_ishl hx hb dX1_moveTrawler_64 ?_
      refine lv_ior hx hb dX1_moveTrawler_65 ?_
      refine lv_iload_n hx hb dX1_moveTrawler_66 rfl (lv_at hl 0 rfl) ?_
      refine lv_aload_n hx hb dX1_moveTrawler_67 rfl (lv_at hl 1 rfl) ?_
      refine rg_X1_43 C Z dX1_moveTrawler_68 ?_
      refine lv_iand hx hb dX1_moveTrawler_71 ?_
      refine lv_iconst (v := 1) hx hb dX1_moveTrawler_72 (by decide) ?_
      refine lv_iushr (v := ushr (v17 &&& (gF σ 605)) 1) hx hb dX1_moveTrawler_73 rfl ?_
      refine lv_ior hx hb dX1_moveTrawler_74 ?_
      obtain ⟨v18, ev18, h⟩ := lb h
      refine tn_i ev18 ?_
      refine lv_istore (lv' := [(4, .int v18), (3, .int v17), (0, .ref (ad 6)), (1, .int x1), (2, .int x2)]) hx hb dX1_moveTrawler_75 hl (by decide) rfl (fun ls hl => ?_)
      refine lv_aload_n hx hb dX1_moveTrawler_77 rfl (lv_at hl 2 rfl) ?_
      refine rg_X1_21 C Z dX1_moveTrawler_78 ?_
      refine lv_iload_n hx hb dX1_moveTrawler_81 rfl (lv_at hl 3 rfl) ?_
      refine lv_bipush (v := 25) hx hb dX1_moveTrawler_82 (by decide) ?_
      refine lv_imul hx hb dX1_moveTrawler_84 ?_
      refine lv_iload_n hx hb dX1_moveTrawler_85 rfl (lv_at hl 4 rfl) ?_
      refine lv_iadd hx hb dX1_moveTrawler_86 ?_
      refine lv_aload_n hx hb dX1_moveTrawler_87 rfl (lv_at hl 2 rfl) ?_
      refine rg_X1_40 C Z dX1_moveTrawler_88 ?_
      refine lv_iload hx hb dX1_moveTrawler_91 (lv_at hl 0 rfl) ?_
      refine lv_iconst (v := (-1)) hx hb dX1_moveTrawler_93 (by decide) ?_
      refine lv_ixor hx hb dX1_moveTrawler_94 ?_
      refine lv_iand hx hb dX1_moveTrawler_95 ?_
      obtain ⟨σ19, hσ19, h⟩ := ob h
      refine g_iast C Z iaC49 hσ19 dX1_moveTrawler_96 (fun H locs Z => ?_)
      obtain ⟨v20, ev20, h⟩ := lb h
      refine lv_iinc (v := v20) (lv' := [(2, .int v20), (4, .int v18), (3, .int v17), (0, .ref (ad 6)), (1, .int x1)]) hx hb dX1_moveTrawler_97 hl (k := 4) rfl (by rw [ev20]; rfl) (by decide) rfl (fun ls hl => ?_)
      refine lv_goto (tgt := 15) hx hb dX1_moveTrawler_100 (by decide) ?_
      exact ih _ _ _ _ _ Z (lv_sub hl [3, 4, 0] rfl) h
set_option maxRecDepth 20000 in
theorem w_X1_moveTrawler_5 {p : Program} {l : Launch} {e : Env} {s : State} {m : MethodId} {args : Array Value} {below : List Frame} {meth : Method} {c : Code} {Q : State → Prop} {D : va_G} {kc : Nat → ClassId} {ad : Nat → Nat} {A : Nat → Prop} {adK adV : Nat → Nat} (C : Cx (eC adK adV) p s m args c cX1_moveTrawler 5 RX1 D kc A) {R : St} (hR : RTv 0 0 p l e r_X1_moveTrawler s m args below meth c cX1_moveTrawler tC kc ad D A Q R) : ∀ (n : Nat) (x1 : Int32) (σ : St) (H : Heap) (locs : List Loc) (ls : Array Slot), Dy tC kc ad D A s.heap σ H locs → lv_has ls 5 [(0, .ref (ad 6)), (1, .int x1)] → f_X1_moveTrawler_5 n x1 σ = some R → W p l e r_X1_moveTrawler s m args below meth c H locs 0 0 Q (F0 m 5 ls []) := by
  have hx := C.1.1
  have hb := C.1.2.1
  intro n
  induction n with
  | zero =>
    intro x1 σ H locs ls Z hl h
    exact absurd (show none = some R from h) (by simp)
  | succ n ih =>
    intro x1 σ H locs ls Z hl h
    rw [f_X1_moveTrawler_5] at h
    refine lv_iload_n hx hb dX1_moveTrawler_5 rfl (lv_at hl 1 rfl) ?_
    refine lv_aload_n hx hb dX1_moveTrawler_6 rfl (lv_at hl 0 rfl) ?_
    refine rg_X1_52 C Z dX1_moveTrawler_7 ?_
    refine lv_icmp_gt (tgt := 109) hx hb dX1_moveTrawler_10 (by decide) (fun c10 => ?_) (fun c10 => ?_)
    · have h := ip h c10
      obtain rfl := Option.some.inj h
      exact hR _ _ _ _ Z dX1_moveTrawler_109
    · have h := im h c10
      refine lv_iconst (v := 0) hx hb dX1_moveTrawler_13 (by decide) ?_
      refine lv_istore_n (lv' := [(2, .int 0), (0, .ref (ad 6)), (1, .int x1)]) hx hb dX1_moveTrawler_14 rfl hl (by decide) rfl (fun ls hl => ?_)
      exact w_X1_moveTrawler_15 C hR ih _ _ _ _ _ _ Z (lv_sub hl [1, 2, 0] rfl) h
set_option maxRecDepth 20000 in
theorem w_X1_moveTrawler_0 {p : Program} {l : Launch} {e : Env} {s : State} {m : MethodId} {args : Array Value} {below : List Frame} {meth : Method} {c : Code} {Q : State → Prop} {D : va_G} {kc : Nat → ClassId} {ad : Nat → Nat} {A : Nat → Prop} {adK adV : Nat → Nat} (C : Cx (eC adK adV) p s m args c cX1_moveTrawler 5 RX1 D kc A) {R : St} {σ : St} (hR : RTv 0 0 p l e r_X1_moveTrawler s m args below meth c cX1_moveTrawler tC kc ad D A Q R) {H : Heap} {locs : List Loc} {ls : Array Slot} (Z : Dy tC kc ad D A s.heap σ H locs) (hl : lv_has ls 5 [(0, .ref (ad 6))]) (h : f_X1_moveTrawler σ = some R) : W p l e r_X1_moveTrawler s m args below meth c H locs 0 0 Q (F0 m 0 ls []) := by
  have hx := C.1.1
  have hb := C.1.2.1
  unfold f_X1_moveTrawler at h
  refine lv_aload_n hx hb dX1_moveTrawler_0 rfl (lv_at hl 0 rfl) ?_
  refine rg_X1_49 C Z dX1_moveTrawler_1 ?_
  obtain ⟨v15, ev15, h⟩ := lb h
  refine tn_i ev15 ?_
  refine lv_istore_n (lv' := [(1, .int v15), (0, .ref (ad 6))]) hx hb dX1_moveTrawler_4 rfl hl (by decide) rfl (fun ls hl => ?_)
  exact w_X1_moveTrawler_5 C hR _ _ _ _ _ _ Z (lv_sub hl [1, 0] rfl) h
theorem k_X1_moveTrawler {l : Launch} {kc : Nat → ClassId} {ad : Nat → Nat} {D : va_G} {adK adV : Nat → Nat} {σ : St} {R : St} (h : f_X1_moveTrawler σ = some R) : KC (eC adK adV) tC kc ad D l yX1_moveTrawler (.code yX1_moveTrawler cX1_moveTrawler 5 none) r_X1_moveTrawler [.ref (ad 6)] none σ R := by
  refine g_enter (by decide) (Nat.le_of_ble_eq_true rfl) ?_
  intro p e s m args below meth c A hA C hr hlocks Z ls hl
  have hl : lv_has ls 5 [(0, .ref (ad 6))] := hl
  exact w_X1_moveTrawler_0 C (g_RTv C.1.1 C.1.2.1 hr hlocks hA)  Z hl h
