def r_X1_moveFrigate : Room := { frames := 1, cells := 0, slots := 0, locals := 22 }
set_option maxRecDepth 20000 in
theorem w_X1_moveFrigate_87 {p : Program} {l : Launch} {e : Env} {s : State} {m : MethodId} {args : Array Value} {below : List Frame} {meth : Method} {c : Code} {Q : State → Prop} {D : va_G} {kc : Nat → ClassId} {ad : Nat → Nat} {A : Nat → Prop} {adK adV : Nat → Nat} (C : Cx (eC adK adV) p s m args c cX1_moveFrigate 6 RX1 D kc A) {R : St} {x1 : Int32} {x2 : Int32} {x3 : Int32} {x4 : Int32} {σ : St} (hR : RTv 0 0 p l e r_X1_moveFrigate s m args below meth c cX1_moveFrigate tC kc ad D A Q R) {k31 : Int32 → Int32 → Option (St)} {k15 : Int32 → St → Option (St)} {k5 : Int32 → St → Option (St)} (hk31 : ∀ (x3 : Int32) (x4 : Int32) (H : Heap) (locs : List Loc) (ls : Array Slot), Dy tC kc ad D A s.heap σ H locs → lv_has ls 6 [(0, .ref (ad 6)), (1, .int x1), (2, .int x2), (3, .int x3), (4, .int x4)] → k31 x3 x4 = some R → W p l e r_X1_moveFrigate s m args below meth c H locs 0 0 Q (F0 m 31 ls [])) (hk15 : ∀ (x2 : Int32) (σ : St) (H : Heap) (locs : List Loc) (ls : Array Slot), Dy tC kc ad D A s.heap σ H locs → lv_has ls 6 [(0, .ref (ad 6)), (1, .int x1), (2, .int x2)] → k15 x2 σ = some R → W p l e r_X1_moveFrigate s m args below meth c H locs 0 0 Q (F0 m 15 ls [])) (hk5 : ∀ (x1 : Int32) (σ : St) (H : Heap) (locs : List Loc) (ls : Array Slot), Dy tC kc ad D A s.heap σ H locs → lv_has ls 6 [(0, .ref (ad 6)), (1, .int x1)] → k5 x1 σ = some R → W p l e r_X1_moveFrigate s m args below meth c H locs 0 0 Q (F0 m 5 ls [])) {H : Heap} {locs : List Loc} {ls : Array Slot} (Z : Dy tC kc ad D A s.heap σ H locs) (hl : lv_has ls 6 [(0, .ref (ad 6)), (1, .int x1), (2, .int x2), (3, .int x3), (4, .int x4)]) (h : f_X1_moveFrigate_87 x1 x2 x3 x4 σ k31 k15 k5 = some R) : W p l e r_X1_moveFrigate s m args below meth c H locs 0 0 Q (F0 m 87 ls []) := by
  have hx := C.1.1
  have hb := C.1.2.1
  unfold f_X1_moveFrigate_87 at h
  obtain ⟨v24, ev24, h⟩ := lb h
  refine lv_iinc (v := v24) (lv' := [(4, .int v24), (0, .ref (ad 6)), (1, .int x1), (2, .int x2), (3, .int x3)]) hx hb dX1_moveFrigate_87 hl (k := 4) rfl (by rw [ev24]; rfl) (by decide) rfl (fun ls hl => ?_)
  refine lv_goto (tgt := 31) hx hb dX1_moveFrigate_90 (by decide) ?_
  exact hk31 _ _ _ _ _ Z (lv_sub hl [1, 2, 3, 4, 0] rfl) h
set_option maxRecDepth 20000 in
theorem w_X1_moveFrigate_93 {p : Program} {l : Launch} {e : Env} {s : State} {m : MethodId} {args : Array Value} {below : List Frame} {meth : Method} {c : Code} {Q : State → Prop} {D : va_G} {kc : Nat → ClassId} {ad : Nat → Nat} {A : Nat → Prop} {adK adV : Nat → Nat} (C : Cx (eC adK adV) p s m args c cX1_moveFrigate 6 RX1 D kc A) {R : St} {x1 : Int32} {x2 : Int32} {x3 : Int32} {σ : St} (hR : RTv 0 0 p l e r_X1_moveFrigate s m args below meth c cX1_moveFrigate tC kc ad D A Q R) {k15 : Int32 → St → Option (St)} {k5 : Int32 → St → Option (St)} (hk15 : ∀ (x2 : Int32) (σ : St) (H : Heap) (locs : List Loc) (ls : Array Slot), Dy tC kc ad D A s.heap σ H locs → lv_has ls 6 [(0, .ref (ad 6)), (1, .int x1), (2, .int x2)] → k15 x2 σ = some R → W p l e r_X1_moveFrigate s m args below meth c H locs 0 0 Q (F0 m 15 ls [])) (hk5 : ∀ (x1 : Int32) (σ : St) (H : Heap) (locs : List Loc) (ls : Array Slot), Dy tC kc ad D A s.heap σ H locs → lv_has ls 6 [(0, .ref (ad 6)), (1, .int x1)] → k5 x1 σ = some R → W p l e r_X1_moveFrigate s m args below meth c H locs 0 0 Q (F0 m 5 ls [])) {H : Heap} {locs : List Loc} {ls : Array Slot} (Z : Dy tC kc ad D A s.heap σ H locs) (hl : lv_has ls 6 [(0, .ref (ad 6)), (1, .int x1), (2, .int x2), (3, .int x3)]) (h : f_X1_moveFrigate_93 x1 x2 x3 σ k15 k5 = some R) : W p l e r_X1_moveFrigate s m args below meth c H locs 0 0 Q (F0 m 93 ls []) := by
  have hx := C.1.1
  have hb := C.1.2.1
  unfold f_X1_moveFrigate_93 at h
  refine lv_aload_n hx hb dX1_moveFrigate_93 rfl (lv_at hl 0 rfl) ?_
  refine rg_X1_18 C Z dX1_moveFrigate_94 ?_
  refine lv_iload_n hx hb dX1_moveFrigate_97 rfl (lv_at hl 1 rfl) ?_
  refine lv_bipush (v := 25) hx hb dX1_moveFrigate_98 (by decide) ?_
  refine lv_imul hx hb dX1_moveFrigate_100 ?_
  refine lv_iload_n hx hb dX1_moveFrigate_101 rfl (lv_at hl 2 rfl) ?_
  refine lv_iadd hx hb dX1_moveFrigate_102 ?_
  refine lv_iload_n hx hb dX1_moveFrigate_103 rfl (lv_at hl 3 rfl) ?_
  refine lv_iconst (v := 1) hx hb dX1_moveFrigate_104 (by decide) ?_
  refine lv_iload_n hx hb dX1_moveFrigate_105 rfl (lv_at hl 2 rfl) ?_
  refine lv_ishl hx hb dX1_moveFrigate_106 ?_
  refine lv_ior hx hb dX1_moveFrigate_107 ?_
  obtain ⟨σ25, hσ25, h⟩ := ob h
  refine g_iast C Z iaC48 hσ25 dX1_moveFrigate_108 (fun H locs Z => ?_)
  obtain ⟨v26, ev26, h⟩ := lb h
  refine lv_iinc (v := v26) (lv' := [(2, .int v26), (0, .ref (ad 6)), (1, .int x1), (3, .int x3)]) hx hb dX1_moveFrigate_109 hl (k := 2) rfl (by rw [ev26]; rfl) (by decide) rfl (fun ls hl => ?_)
  refine lv_goto (tgt := 15) hx hb dX1_moveFrigate_112 (by decide) ?_
  exact hk15 _ _ _ _ _ Z (lv_sub hl [1, 2, 0] rfl) h
set_option maxRecDepth 20000 in
theorem w_X1_moveFrigate_31 {p : Program} {l : Launch} {e : Env} {s : State} {m : MethodId} {args : Array Value} {below : List Frame} {meth : Method} {c : Code} {Q : State → Prop} {D : va_G} {kc : Nat → ClassId} {ad : Nat → Nat} {A : Nat → Prop} {adK adV : Nat → Nat} (C : Cx (eC adK adV) p s m args c cX1_moveFrigate 6 RX1 D kc A) {R : St} {x1 : Int32} {x2 : Int32} {σ : St} (hR : RTv 0 0 p l e r_X1_moveFrigate s m args below meth c cX1_moveFrigate tC kc ad D A Q R) {k15 : Int32 → St → Option (St)} {k5 : Int32 → St → Option (St)} (hk15 : ∀ (x2 : Int32) (σ : St) (H : Heap) (locs : List Loc) (ls : Array Slot), Dy tC kc ad D A s.heap σ H locs → lv_has ls 6 [(0, .ref (ad 6)), (1, .int x1), (2, .int x2)] → k15 x2 σ = some R → W p l e r_X1_moveFrigate s m args below meth c H locs 0 0 Q (F0 m 15 ls [])) (hk5 : ∀ (x1 : Int32) (σ : St) (H : Heap) (locs : List Loc) (ls : Array Slot), Dy tC kc ad D A s.heap σ H locs → lv_has ls 6 [(0, .ref (ad 6)), (1, .int x1)] → k5 x1 σ = some R → W p l e r_X1_moveFrigate s m args below meth c H locs 0 0 Q (F0 m 5 ls [])) : ∀ (n : Nat) (x3 : Int32) (x4 : Int32) (H : Heap) (locs : List Loc) (ls : Array Slot), Dy tC kc ad D A s.heap σ H locs → lv_has ls 6 [(0, .ref (ad 6)), (1, .int x1), (2, .int x2), (3, .int x3), (4, .int x4)] → f_X1_moveFrigate_31 x1 x2 σ k15 k5 n x3 x4 = some R → W p l e r_X1_moveFrigate s m args below meth c H locs 0 0 Q (F0 m 31 ls []) := by
  have hx := C.1.1
  have hb := C.1.2.1
  intro n
  induction n with
  | zero =>
    intro x3 x4 H locs ls Z hl h
    exact absurd (show none = some R from h) (by simp)
  | succ n ih =>
    intro x3 x4 H locs ls Z hl h
    rw [f_X1_moveFrigate_31] at h
    refine lv_iload hx hb dX1_moveFrigate_31 (lv_at hl 4 rfl) ?_
    refine lv_iconst (v := 5) hx hb dX1_moveFrigate_33 (by decide) ?_
    refine lv_icmp_ge (tgt := 93) hx hb dX1_moveFrigate_34 (by decide) (fun c34 => ?_) (fun c34 => ?_)
    · have h := ip h c34
      exact w_X1_moveFrigate_93 C hR hk15 hk5 Z (lv_sub hl [0, 1, 2, 3] rfl) h
    · have h := im h c34
      refine lv_aload_n hx hb dX1_moveFrigate_37 rfl (lv_at hl 0 rfl) ?_
      refine rg_X1_11 C Z dX1_moveFrigate_38 ?_
      refine lv_iload_n hx hb dX1_moveFrigate_41 rfl (lv_at hl 1 rfl) ?_
      refine lv_iconst (v := 5) hx hb dX1_moveFrigate_42 (by decide) ?_
      refine lv_imul hx hb dX1_moveFrigate_43 ?_
      refine lv_iload hx hb dX1_moveFrigate_44 (lv_at hl 4 rfl) ?_
      refine lv_iadd hx hb dX1_moveFrigate_46 ?_
      obtain ⟨v21, hv21, h⟩ := ob h
      refine g_iald C Z iaC46 hv21 dX1_moveFrigate_47 ?_
      refine lv_istore (lv' := [(5, .int v21), (0, .ref (ad 6)), (1, .int x1), (2, .int x2), (3, .int x3), (4, .int x4)]) hx hb dX1_moveFrigate_48 hl (by decide) rfl (fun ls hl => ?_)
      refine lv_iload hx hb dX1_moveFrigate_50 (lv_at hl 0 rfl) ?_
      refine lv_iload_n hx hb dX1_moveFrigate_52 rfl (lv_at hl 3 rfl) ?_
      refine lv_icmp_eq (tgt := 87) hx hb dX1_moveFrigate_53 (by decide) (fun c53 => ?_) (fun c53 => ?_)
      · have h := ip h c53
        exact w_X1_moveFrigate_87 C hR ih hk15 hk5 Z (lv_sub hl [1, 2, 3, 4, 5] rfl) h
      · have h := im h c53
        refine lv_iload hx hb dX1_moveFrigate_56 (lv_at hl 0 rfl) ?_
        refine lv_aload_n hx hb dX1_moveFrigate_58 rfl (lv_at hl 1 rfl) ?_
        refine rg_X1_49 C Z dX1_moveFrigate_59 ?_
        refine lv_aload_n hx hb dX1_moveFrigate_62 rfl (lv_at hl 1 rfl) ?_
        refine rg_X1_52 C Z dX1_moveFrigate_63 ?_
        refine g_callNi (eC_ok adK adV) C Z (k_X10_lies v21 (gF σ 602) (gF σ 603) σ) (C.2.2.2.1 _ nw_X1_65) lkn_X10_lies hl (by decide) rfl (Nat.le_of_ble_eq_true rfl) (rest := []) rfl dX1_moveFrigate_66 (fun H locs Z => ?_)
        refine lv_if_eq (tgt := 87) hx hb dX1_moveFrigate_69 (by decide) (fun c69 => ?_) (fun c69 => ?_)
        · have h := ip h c69
          exact w_X1_moveFrigate_87 C hR ih hk15 hk5 Z (lv_sub hl [1, 2, 3, 4, 5] rfl) h
        · have h := im h c69
          refine lv_iload_n hx hb dX1_moveFrigate_72 rfl (lv_at hl 4 rfl) ?_
          refine lv_aload_n hx hb dX1_moveFrigate_73 rfl (lv_at hl 1 rfl) ?_
          refine rg_X1_21 C Z dX1_moveFrigate_74 ?_
          refine lv_iload hx hb dX1_moveFrigate_77 (lv_at hl 0 rfl) ?_
          refine lv_bipush (v := 25) hx hb dX1_moveFrigate_79 (by decide) ?_
          refine lv_imul hx hb dX1_moveFrigate_81 ?_
          refine lv_iload_n hx hb dX1_moveFrigate_82 rfl (lv_at hl 3 rfl) ?_
          refine lv_iadd hx hb dX1_moveFrigate_83 ?_
          obtain ⟨v22, hv22, h⟩ := ob h
          refine g_iald C Z iaC49 hv22 dX1_moveFrigate_84 ?_
          refine lv_iand hx hb dX1_moveFrigate_85 ?_
          obtain ⟨v23, ev23, h⟩ := lb h
          refine tn_i ev23 ?_
          refine lv_istore_n (lv' := [(3, .int v23), (5, .int v21), (0, .ref (ad 6)), (1, .int x1), (2, .int x2), (4, .int x4)]) hx hb dX1_moveFrigate_86 rfl hl (by decide) rfl (fun ls hl => ?_)
          exact w_X1_moveFrigate_87 C hR ih hk15 hk5 Z (lv_sub hl [2, 3, 4, 0, 5] rfl) h
set_option maxRecDepth 20000 in
theorem w_X1_moveFrigate_115 {p : Program} {l : Launch} {e : Env} {s : State} {m : MethodId} {args : Array Value} {below : List Frame} {meth : Method} {c : Code} {Q : State → Prop} {D : va_G} {kc : Nat → ClassId} {ad : Nat → Nat} {A : Nat → Prop} {adK adV : Nat → Nat} (C : Cx (eC adK adV) p s m args c cX1_moveFrigate 6 RX1 D kc A) {R : St} {x1 : Int32} {σ : St} (hR : RTv 0 0 p l e r_X1_moveFrigate s m args below meth c cX1_moveFrigate tC kc ad D A Q R) {k5 : Int32 → St → Option (St)} (hk5 : ∀ (x1 : Int32) (σ : St) (H : Heap) (locs : List Loc) (ls : Array Slot), Dy tC kc ad D A s.heap σ H locs → lv_has ls 6 [(0, .ref (ad 6)), (1, .int x1)] → k5 x1 σ = some R → W p l e r_X1_moveFrigate s m args below meth c H locs 0 0 Q (F0 m 5 ls [])) {H : Heap} {locs : List Loc} {ls : Array Slot} (Z : Dy tC kc ad D A s.heap σ H locs) (hl : lv_has ls 6 [(0, .ref (ad 6)), (1, .int x1)]) (h : f_X1_moveFrigate_115 x1 σ k5 = some R) : W p l e r_X1_moveFrigate s m args below meth c H locs 0 0 Q (F0 m 115 ls []) := by
  have hx := C.1.1
  have hb := C.1.2.1
  unfold f_X1_moveFrigate_115 at h
  obtain ⟨v27, ev27, h⟩ := lb h
  refine lv_iinc (v := v27) (lv' := [(1, .int v27), (0, .ref (ad 6))]) hx hb dX1_moveFrigate_115 hl (k := 1) rfl (by rw [ev27]; rfl) (by decide) rfl (fun ls hl => ?_)
  refine lv_goto (tgt := 5) hx hb dX1_moveFrigate_118 (by decide) ?_
  exact hk5 _ _ _ _ _ Z (lv_sub hl [1, 0] rfl) h
set_option maxRecDepth 20000 in
theorem w_X1_moveFrigate_15 {p : Program} {l : Launch} {e : Env} {s : State} {m : MethodId} {args : Array Value} {below : List Frame} {meth : Method} {c : Code} {Q : State → Prop} {D : va_G} {kc : Nat → ClassId} {ad : Nat → Nat} {A : Nat → Prop} {adK adV : Nat → Nat} (C : Cx (eC adK adV) p s m args c cX1_moveFrigate 6 RX1 D kc A) {R : St} {x1 : Int32} (hR : RTv 0 0 p l e r_X1_moveFrigate s m args below meth c cX1_moveFrigate tC kc ad D A Q R) {k5 : Int32 → St → Option (St)} (hk5 : ∀ (x1 : Int32) (σ : St) (H : Heap) (locs : List Loc) (ls : Array Slot), Dy tC kc ad D A s.heap σ H locs → lv_has ls 6 [(0, .ref (ad 6)), (1, .int x1)] → k5 x1 σ = some R → W p l e r_X1_moveFrigate s m args below meth c H locs 0 0 Q (F0 m 5 ls [])) : ∀ (n : Nat) (x2 : Int32) (σ : St) (H : Heap) (locs : List Loc) (ls : Array Slot), Dy tC kc ad D A s.heap σ H locs → lv_has ls 6 [(0, .ref (ad 6)), (1, .int x1), (2, .int x2)] → f_X1_moveFrigate_15 x1 k5 n x2 σ = some R → W p l e r_X1_moveFrigate s m args below meth c H locs 0 0 Q (F0 m 15 ls []) := by
  have hx := C.1.1
  have hb := C.1.2.1
  intro n
  induction n with
  | zero =>
    intro x2 σ H locs ls Z hl h
    exact absurd (show none = some R from h) (by simp)
  | succ n ih =>
    intro x2 σ H locs ls Z hl h
    rw [f_X1_moveFrigate_15] at h
    refine lv_iload_n hx hb dX1_moveFrigate_15 rfl (lv_at hl 2 rfl) ?_
    refine lv_aload_n hx hb dX1_moveFrigate_16 rfl (lv_at hl 0 rfl) ?_
    refine rg_X1_37 C Z dX1_moveFrigate_17 ?_
    refine lv_icmp_ge (tgt := 115) hx hb dX1_moveFrigate_20 (by decide) (fun c20 => ?_) (fun c20 => ?_)
    · have h := ip h c20
      exact w_X1_moveFrigate_115 C hR hk5 Z (lv_sub hl [0, 1] rfl) h
    · have h := im h c20
      refine lv_aload_n hx hb dX1_moveFrigate_23 rfl (lv_at hl 0 rfl) ?_
      refine rg_X1_40 C Z dX1_moveFrigate_24 ?_
      obtain ⟨v20, ev20, h⟩ := lb h
      refine tn_i ev20 ?_
      refine lv_istore_n (lv' := [(3, .int v20), (0, .ref (ad 6)), (1, .int x1), (2, .int x2)]) hx hb dX1_moveFrigate_27 rfl hl (by decide) rfl (fun ls hl => ?_)
      refine lv_iconst (v := 0) hx hb dX1_moveFrigate_28 (by decide) ?_
      refine lv_istore (lv' := [(4, .int 0), (3, .int v20), (0, .ref (ad 6)), (1, .int x1), (2, .int x2)]) hx hb dX1_moveFrigate_29 hl (by decide) rfl (fun ls hl => ?_)
      exact w_X1_moveFrigate_31 C hR ih hk5 _ _ _ _ _ _ Z (lv_sub hl [2, 3, 4, 1, 0] rfl) h
set_option maxRecDepth 20000 in
theorem w_X1_moveFrigate_5 {p : Program} {l : Launch} {e : Env} {s : State} {m : MethodId} {args : Array Value} {below : List Frame} {meth : Method} {c : Code} {Q : State → Prop} {D : va_G} {kc : Nat → ClassId} {ad : Nat → Nat} {A : Nat → Prop} {adK adV : Nat → Nat} (C : Cx (eC adK adV) p s m args c cX1_moveFrigate 6 RX1 D kc A) {R : St} (hR : RTv 0 0 p l e r_X1_moveFrigate s m args below meth c cX1_moveFrigate tC kc ad D A Q R) : ∀ (n : Nat) (x1 : Int32) (σ : St) (H : Heap) (locs : List Loc) (ls : Array Slot), Dy tC kc ad D A s.heap σ H locs → lv_has ls 6 [(0, .ref (ad 6)), (1, .int x1)] → f_X1_moveFrigate_5 n x1 σ = some R → W p l e r_X1_moveFrigate s m args below meth c H locs 0 0 Q (F0 m 5 ls []) := by
  have hx := C.1.1
  have hb := C.1.2.1
  intro n
  induction n with
  | zero =>
    intro x1 σ H locs ls Z hl h
    exact absurd (show none = some R from h) (by simp)
  | succ n ih =>
    intro x1 σ H locs ls Z hl h
    rw [f_X1_moveFrigate_5] at h
    refine lv_iload_n hx hb dX1_moveFrigate_5 rfl (lv_at hl 1 rfl) ?_
    refine lv_aload_n hx hb dX1_moveFrigate_6 rfl (lv_at hl 0 rfl) ?_
    refine rg_X1_52 C Z dX1_moveFrigate_7 ?_
    refine lv_icmp_gt (tgt := 121) hx hb dX1_moveFrigate_10 (by decide) (fun c10 => ?_) (fun c10 => ?_)
    · have h := ip h c10
      obtain rfl := Option.some.inj h
      exact hR _ _ _ _ Z dX1_moveFrigate_121
    · have h := im h c10
      refine lv_iconst (v := 0) hx hb dX1_moveFrigate_13 (by decide) ?_
      refine lv_istore_n (lv' := [(2, .int 0), (0, .ref (ad 6)), (1, .int x1)]) hx hb dX1_moveFrigate_14 rfl hl (by decide) rfl (fun ls hl => ?_)
      exact w_X1_moveFrigate_15 C hR ih _ _ _ _ _ _ Z (lv_sub hl [1, 2, 0] rfl) h
set_option maxRecDepth 20000 in
theorem w_X1_moveFrigate_0 {p : Program} {l : Launch} {e : Env} {s : State} {m : MethodId} {args : Array Value} {below : List Frame} {meth : Method} {c : Code} {Q : State → Prop} {D : va_G} {kc : Nat → ClassId} {ad : Nat → Nat} {A : Nat → Prop} {adK adV : Nat → Nat} (C : Cx (eC adK adV) p s m args c cX1_moveFrigate 6 RX1 D kc A) {R : St} {σ : St} (hR : RTv 0 0 p l e r_X1_moveFrigate s m args below meth c cX1_moveFrigate tC kc ad D A Q R) {H : Heap} {locs : List Loc} {ls : Array Slot} (Z : Dy tC kc ad D A s.heap σ H locs) (hl : lv_has ls 6 [(0, .ref (ad 6))]) (h : f_X1_moveFrigate σ = some R) : W p l e r_X1_moveFrigate s m args below meth c H locs 0 0 Q (F0 m 0 ls []) := by
  have hx := C.1.1
  have hb := C.1.2.1
  unfold f_X1_moveFrigate at h
  refine lv_aload_n hx hb dX1_moveFrigate_0 rfl (lv_at hl 0 rfl) ?_
  refine rg_X1_49 C Z dX1_moveFrigate_1 ?_
  obtain ⟨v19, ev19, h⟩ := lb h
  refine tn_i ev19 ?_
  refine lv_istore_n (lv' := [(1, .int v19), (0, .ref (ad 6))]) hx hb dX1_moveFrigate_4 rfl hl (by decide) rfl (fun ls hl => ?_)
  exact w_X1_moveFrigate_5 C hR _ _ _ _ _ _ Z (lv_sub hl [1, 0] rfl) h
theorem k_X1_moveFrigate {l : Launch} {kc : Nat → ClassId} {ad : Nat → Nat} {D : va_G} {adK adV : Nat → Nat} {σ : St} {R : St} (h : f_X1_moveFrigate σ = some R) : KC (eC adK adV) tC kc ad D l yX1_moveFrigate (.code yX1_moveFrigate cX1_moveFrigate 6 none) r_X1_moveFrigate [.ref (ad 6)] none σ R := by
  refine g_enter (by decide) (Nat.le_of_ble_eq_true rfl) ?_
  intro p e s m args below meth c A hA C hr hlocks Z ls hl
  have hl : lv_has ls 6 [(0, .ref (ad 6))] := hl
  exact w_X1_moveFrigate_0 C (g_RTv C.1.1 C.1.2.1 hr hlocks hA)  Z hl h
def r_X1_moveWarder : Room := { frames := 1, cells := 0, slots := 0, locals := 22 }
set_option maxRecDepth 20000 in
theorem w_X1_moveWarder_85 {p : Program} {l : Launch} {e : Env} {s : State} {m : MethodId} {args : Array Value} {below : List Frame} {meth : Method} {c : Code} {Q : State → Prop} {D : va_G} {kc : Nat → ClassId} {ad : Nat → Nat} {A : Nat → Prop} {adK adV : Nat → Nat} (C : Cx (eC adK adV) p s m args c cX1_moveWarder 6 RX1 D kc A) {R : St} {x1 : Int32} {x2 : Int32} {x3 : Int32} {x4 : Int32} {σ : St} (hR : RTv 0 0 p l e r_X1_moveWarder s m args below meth c cX1_moveWarder tC kc ad D A Q R) {k30 : Int32 → Int32 → Option (St)} {k15 : Int32 → St → Option (St)} {k5 : Int32 → St → Option (St)} (hk30 : ∀ (x3 : Int32) (x4 : Int32) (H : Heap) (locs : List Loc) (ls : Array Slot), Dy tC kc ad D A s.heap σ H locs → lv_has ls 6 [(0, .ref (ad 6)), (1, .int x1), (2, .int x2), (3, .int x3), (4, .int x4)] → k30 x3 x4 = some R → W p l e r_X1_moveWarder s m args below meth c H locs 0 0 Q (F0 m 30 ls [])) (hk15 : ∀ (x2 : Int32) (σ : St) (H : Heap) (locs : List Loc) (ls : Array Slot), Dy tC kc ad D A s.heap σ H locs → lv_has ls 6 [(0, .ref (ad 6)), (1, .int x1), (2, .int x2)] → k15 x2 σ = some R → W p l e r_X1_moveWarder s m args below meth c H locs 0 0 Q (F0 m 15 ls [])) (hk5 : ∀ (x1 : Int32) (σ : St) (H : Heap) (locs : List Loc) (ls : Array Slot), Dy tC kc ad D A s.heap σ H locs → lv_has ls 6 [(0, .ref (ad 6)), (1, .int x1)] → k5 x1 σ = some R → W p l e r_X1_moveWarder s m args below meth c H locs 0 0 Q (F0 m 5 ls [])) {H : Heap} {locs : List Loc} {ls : Array Slot} (Z : Dy tC kc ad D A s.heap σ H locs) (hl : lv_has ls 6 [(0, .ref (ad 6)), (1, .int x1), (2, .int x2), (3, .int x3), (4, .int x4)]) (h : f_X1_moveWarder_85 x1 x2 x3 x4 σ k30 k15 k5 = some R) : W p l e r_X1_moveWarder s m args below meth c H locs 0 0 Q (F0 m 85 ls []) := by
  have hx := C.1.1
  have hb := C.1.2.1
  unfold f_X1_moveWarder_85 at h
  obtain ⟨v24, ev24, h⟩ := lb h
  refine lv_iinc (v := v24) (lv' := [(4, .int v24), (0, .ref (ad 6)), (1, .int x1), (2, .int x2), (3, .int x3)]) hx hb dX1_moveWarder_85 hl (k := 4) rfl (by rw [ev24]; rfl) (by decide) rfl (fun ls hl => ?_)
  refine lv_goto (tgt := 30) hx hb dX1_moveWarder_88 (by decide) ?_
  exact hk30 _ _ _ _ _ Z (lv_sub hl [1, 2, 3, 4, 0] rfl) h
set_option maxRecDepth 20000 in
theorem w_X1_moveWarder_91 {p : Program} {l : Launch} {e : Env} {s : State} {m : MethodId} {args : Array Value} {below : List Frame} {meth : Method} {c : Code} {Q : State → Prop} {D : va_G} {kc : Nat → ClassId} {ad : Nat → Nat} {A : Nat → Prop} {adK adV : Nat → Nat} (C : Cx (eC adK adV) p s m args c cX1_moveWarder 6 RX1 D kc A) {R : St} {x1 : Int32} {x2 : Int32} {x3 : Int32} {σ : St} (hR : RTv 0 0 p l e r_X1_moveWarder s m args below meth c cX1_moveWarder tC kc ad D A Q R) {k15 : Int32 → St → Option (St)} {k5 : Int32 → St → Option (St)} (hk15 : ∀ (x2 : Int32) (σ : St) (H : Heap) (locs : List Loc) (ls : Array Slot), Dy tC kc ad D A s.heap σ H locs → lv_has ls 6 [(0, .ref (ad 6)), (1, .int x1), (2, .int x2)] → k15 x2 σ = some R → W p l e r_X1_moveWarder s m args below meth c H locs 0 0 Q (F0 m 15 ls [])) (hk5 : ∀ (x1 : Int32) (σ : St) (H : Heap) (locs : List Loc) (ls : Array Slot), Dy tC kc ad D A s.heap σ H locs → lv_has ls 6 [(0, .ref (ad 6)), (1, .int x1)] → k5 x1 σ = some R → W p l e r_X1_moveWarder s m args below meth c H locs 0 0 Q (F0 m 5 ls [])) {H : Heap} {locs : List Loc} {ls : Array Slot} (Z : Dy tC kc ad D A s.heap σ H locs) (hl : lv_has ls 6 [(0, .ref (ad 6)), (1, .int x1), (2, .int x2), (3, .int x3)]) (h : f_X1_moveWarder_91 x1 x2 x3 σ k15 k5 = some R) : W p l e r_X1_moveWarder s m args below meth c H locs 0 0 Q (F0 m 91 ls []) := by
  have hx := C.1.1
  have hb := C.1.2.1
  unfold f_X1_moveWarder_91 at h
  refine lv_aload_n hx hb dX1_moveWarder_91 rfl (lv_at hl 0 rfl) ?_
  refine rg_X1_15 C Z dX1_moveWarder_92 ?_
  refine lv_iload_n hx hb dX1_moveWarder_95 rfl (lv_at hl 1 rfl) ?_
  refine lv_bipush (v := 25) hx hb dX1_moveWarder_96 (by decide) ?_
  refine lv_imul hx hb dX1_moveWarder_98 ?_
  refine lv_iload_n hx hb dX1_moveWarder_99 rfl (lv_at hl 2 rfl) ?_
  refine lv_iadd hx hb dX1_moveWarder_100 ?_
  refine lv_iload_n hx hb dX1_moveWarder_101 rfl (lv_at hl 3 rfl) ?_
  obtain ⟨σ25, hσ25, h⟩ := ob h
  refine g_iast C Z iaC47 hσ25 dX1_moveWarder_102 (fun H locs Z => ?_)
  obtain ⟨v26, ev26, h⟩ := lb h
  refine lv_iinc (v := v26) (lv' := [(2, .int v26), (0, .ref (ad 6)), (1, .int x1), (3, .int x3)]) hx hb dX1_moveWarder_103 hl (k := 2) rfl (by rw [ev26]; rfl) (by decide) rfl (fun ls hl => ?_)
  refine lv_goto (tgt := 15) hx hb dX1_moveWarder_106 (by decide) ?_
  exact hk15 _ _ _ _ _ Z (lv_sub hl [1, 2, 0] rfl) h
set_option maxRecDepth 20000 in
theorem w_X1_moveWarder_30 {p : Program} {l : Launch} {e : Env} {s : State} {m : MethodId} {args : Array Value} {below : List Frame} {meth : Method} {c : Code} {Q : State → Prop} {D : va_G} {kc : Nat → ClassId} {ad : Nat → Nat} {A : Nat → Prop} {adK adV : Nat → Nat} (C : Cx (eC adK adV) p s m args c cX1_moveWarder 6 RX1 D kc A) {R : St} {x1 : Int32} {x2 : Int32} {σ : St} (hR : RTv 0 0 p l e r_X1_moveWarder s m args below meth c cX1_moveWarder tC kc ad D A Q R) {k15 : Int32 → St → Option (St)} {k5 : Int32 → St → Option (St)} (hk15 : ∀ (x2 : Int32) (σ : St) (H : Heap) (locs : List Loc) (ls : Array Slot), Dy tC kc ad D A s.heap σ H locs → lv_has ls 6 [(0, .ref (ad 6)), (1, .int x1), (2, .int x2)] → k15 x2 σ = some R → W p l e r_X1_moveWarder s m args below meth c H locs 0 0 Q (F0 m 15 ls [])) (hk5 : ∀ (x1 : Int32) (σ : St) (H : Heap) (locs : List Loc) (ls : Array Slot), Dy tC kc ad D A s.heap σ H locs → lv_has ls 6 [(0, .ref (ad 6)), (1, .int x1)] → k5 x1 σ = some R → W p l e r_X1_moveWarder s m args below meth c H locs 0 0 Q (F0 m 5 ls [])) : ∀ (n : Nat) (x3 : Int32) (x4 : Int32) (H : Heap) (locs : List Loc) (ls : Array Slot), Dy tC kc ad D A s.heap σ H locs → lv_has ls 6 [(0, .ref (ad 6)), (1, .int x1), (2, .int x2), (3, .int x3), (4, .int x4)] → f_X1_moveWarder_30 x1 x2 σ k15 k5 n x3 x4 = some R → W p l e r_X1_moveWarder s m args below meth c H locs 0 0 Q (F0 m 30 ls []) := by
  have hx := C.1.1
  have hb := C.1.2.1
  intro n
  induction n with
  | zero =>
    intro x3 x4 H locs ls Z hl h
    exact absurd (show none = some R from h) (by simp)
  | succ n ih =>
    intro x3 x4 H locs ls Z hl h
    rw [f_X1_moveWarder_30] at h
    refine lv_iload hx hb dX1_moveWarder_30 (lv_at hl 4 rfl) ?_
    refine lv_iconst (v := 5) hx hb dX1_moveWarder_32 (by decide) ?_
    refine lv_icmp_ge (tgt := 91) hx hb dX1_moveWarder_33 (by decide) (fun c33 => ?_) (fun c33 => ?_)
    · have h := ip h c33
      exact w_X1_moveWarder_91 C hR hk15 hk5 Z (lv_sub hl [0, 1, 2, 3] rfl) h
    · have h := im h c33
      refine lv_aload_n hx hb dX1_moveWarder_36 rfl (lv_at hl 0 rfl) ?_
      refine rg_X1_11 C Z dX1_moveWarder_37 ?_
      refine lv_iload_n hx hb dX1_moveWarder_40 rfl (lv_at hl 2 rfl) ?_
      refine lv_iconst (v := 5) hx hb dX1_moveWarder_41 (by decide) ?_
      refine lv_imul hx hb dX1_moveWarder_42 ?_
      refine lv_iload hx hb dX1_moveWarder_43 (lv_at hl 4 rfl) ?_
      refine lv_iadd hx hb dX1_moveWarder_45 ?_
      obtain ⟨v21, hv21, h⟩ := ob h
      refine g_iald C Z iaC46 hv21 dX1_moveWarder_46 ?_
      refine lv_istore (lv' := [(5, .int v21), (0, .ref (ad 6)), (1, .int x1), (2, .int x2), (3, .int x3), (4, .int x4)]) hx hb dX1_moveWarder_47 hl (by decide) rfl (fun ls hl => ?_)
      refine lv_iload hx hb dX1_moveWarder_49 (lv_at hl 0 rfl) ?_
      refine lv_iload_n hx hb dX1_moveWarder_51 rfl (lv_at hl 2 rfl) ?_
      refine lv_icmp_eq (tgt := 85) hx hb dX1_moveWarder_52 (by decide) (fun c52 => ?_) (fun c52 => ?_)
      · have h := ip h c52
        exact w_X1_moveWarder_85 C hR ih hk15 hk5 Z (lv_sub hl [1, 2, 3, 4, 5] rfl) h
      · have h := im h c52
        refine lv_iload hx hb dX1_moveWarder_55 (lv_at hl 0 rfl) ?_
        refine lv_iconst (v := 0) hx hb dX1_moveWarder_57 (by decide) ?_
        refine lv_aload_n hx hb dX1_moveWarder_58 rfl (lv_at hl 1 rfl) ?_
        refine rg_X1_37 C Z dX1_moveWarder_59 ?_
        refine lv_iconst (v := 1) hx hb dX1_moveWarder_62 (by decide) ?_
        refine lv_isub hx hb dX1_moveWarder_63 ?_
        refine g_callNi (eC_ok adK adV) C Z (k_X10_lies v21 0 ((gF σ 601) - 1) σ) (C.2.2.2.1 _ nw_X1_65) lkn_X10_lies hl (by decide) rfl (Nat.le_of_ble_eq_true rfl) (rest := []) rfl dX1_moveWarder_64 (fun H locs Z => ?_)
        refine lv_if_eq (tgt := 85) hx hb dX1_moveWarder_67 (by decide) (fun c67 => ?_) (fun c67 => ?_)
        · have h := ip h c67
          exact w_X1_moveWarder_85 C hR ih hk15 hk5 Z (lv_sub hl [1, 2, 3, 4, 5] rfl) h
        · have h := im h c67
          refine lv_iload_n hx hb dX1_moveWarder_70 rfl (lv_at hl 4 rfl) ?_
          refine lv_aload_n hx hb dX1_moveWarder_71 rfl (lv_at hl 1 rfl) ?_
          refine rg_X1_18 C Z dX1_moveWarder_72 ?_
          refine lv_iload_n hx hb dX1_moveWarder_75 rfl (lv_at hl 2 rfl) ?_
          refine lv_bipush (v := 25) hx hb dX1_moveWarder_76 (by decide) ?_
          refine lv_imul hx hb dX1_moveWarder_78 ?_
          refine lv_iload hx hb dX1_moveWarder_79 (lv_at hl 0 rfl) ?_
          refine lv_iadd hx hb dX1_moveWarder_81 ?_
          obtain ⟨v22, hv22, h⟩ := ob h
          refine g_iald C Z iaC48 hv22 dX1_moveWarder_82 ?_
          refine lv_ior hx hb dX1_moveWarder_83 ?_
          obtain ⟨v23, ev23, h⟩ := lb h
          refine tn_i ev23 ?_
          refine lv_istore_n (lv' := [(3, .int v23), (5, .int v21), (0, .ref (ad 6)), (1, .int x1), (2, .int x2), (4, .int x4)]) hx hb dX1_moveWarder_84 rfl hl (by decide) rfl (fun ls hl => ?_)
          exact w_X1_moveWarder_85 C hR ih hk15 hk5 Z (lv_sub hl [2, 3, 4, 0, 5] rfl) h
set_option maxRecDepth 20000 in
theorem w_X1_moveWarder_109 {p : Program} {l : Launch} {e : Env} {s : State} {m : MethodId} {args : Array Value} {below : List Frame} {meth : Method} {c : Code} {Q : State → Prop} {D : va_G} {kc : Nat → ClassId} {ad : Nat → Nat} {A : Nat → Prop} {adK adV : Nat → Nat} (C : Cx (eC adK adV) p s m args c cX1_moveWarder 6 RX1 D kc A) {R : St} {x1 : Int32} {σ : St} (hR : RTv 0 0 p l e r_X1_moveWarder s m args below meth c cX1_moveWarder tC kc ad D A Q R) {k5 : Int32 → St → Option (St)} (hk5 : ∀ (x1 : Int32) (σ : St) (H : Heap) (locs : List Loc) (ls : Array Slot), Dy tC kc ad D A s.heap σ H locs → lv_has ls 6 [(0, .ref (ad 6)), (1, .int x1)] → k5 x1 σ = some R → W p l e r_X1_moveWarder s m args below meth c H locs 0 0 Q (F0 m 5 ls [])) {H : Heap} {locs : List Loc} {ls : Array Slot} (Z : Dy tC kc ad D A s.heap σ H locs) (hl : lv_has ls 6 [(0, .ref (ad 6)), (1, .int x1)]) (h : f_X1_moveWarder_109 x1 σ k5 = some R) : W p l e r_X1_moveWarder s m args below meth c H locs 0 0 Q (F0 m 109 ls []) := by
  have hx := C.1.1
  have hb := C.1.2.1
  unfold f_X1_moveWarder_109 at h
  obtain ⟨v27, ev27, h⟩ := lb h
  refine lv_iinc (v := v27) (lv' := [(1, .int v27), (0, .ref (ad 6))]) hx hb dX1_moveWarder_109 hl (k := 1) rfl (by rw [ev27]; rfl) (by decide) rfl (fun ls hl => ?_)
  refine lv_goto (tgt := 5) hx hb dX1_moveWarder_112 (by decide) ?_
  exact hk5 _ _ _ _ _ Z (lv_sub hl [1, 0] rfl) h
set_option maxRecDepth 20000 in
theorem w_X1_moveWarder_15 {p : Program} {l : Launch} {e : Env} {s : State} {m : MethodId} {args : Array Value} {below : List Frame} {meth : Method} {c : Code} {Q : State → Prop} {D : va_G} {kc : Nat → ClassId} {ad : Nat → Nat} {A : Nat → Prop} {adK adV : Nat → Nat} (C : Cx (eC adK adV) p s m args c cX1_moveWarder 6 RX1 D kc A) {R : St} {x1 : Int32} (hR : RTv 0 0 p l e r_X1_moveWarder s m args below meth c cX1_moveWarder tC kc ad D A Q R) {k5 : Int32 → St → Option (St)} (hk5 : ∀ (x1 : Int32) (σ : St) (H : Heap) (locs : List Loc) (ls : Array Slot), Dy tC kc ad D A s.heap σ H locs → lv_has ls 6 [(0, .ref (ad 6)), (1, .int x1)] → k5 x1 σ = some R → W p l e r_X1_moveWarder s m args below meth c H locs 0 0 Q (F0 m 5 ls [])) : ∀ (n : Nat) (x2 : Int32) (σ : St) (H : Heap) (locs : List Loc) (ls : Array Slot), Dy tC kc ad D A s.heap σ H locs → lv_has ls 6 [(0, .ref (ad 6)), (1, .int x1), (2, .int x2)] → f_X1_moveWarder_15 x1 k5 n x2 σ = some R → W p l e r_X1_moveWarder s m args below meth c H locs 0 0 Q (F0 m 15 ls []) := by
  have hx := C.1.1
  have hb := C.1.2.1
  intro n
  induction n with
  | zero =>
    intro x2 σ H locs ls Z hl h
    exact absurd (show none = some R from h) (by simp)
  | succ n ih =>
    intro x2 σ H locs ls Z hl h
    rw [f_X1_moveWarder_15] at h
    refine lv_iload_n hx hb dX1_moveWarder_15 rfl (lv_at hl 2 rfl) ?_
    refine lv_aload_n hx hb dX1_moveWarder_16 rfl (lv_at hl 0 rfl) ?_
    refine rg_X1_37 C Z dX1_moveWarder_17 ?_
    refine lv_icmp_ge (tgt := 109) hx hb dX1_moveWarder_20 (by decide) (fun c20 => ?_) (fun c20 => ?_)
    · have h := ip h c20
      exact w_X1_moveWarder_109 C hR hk5 Z (lv_sub hl [0, 1] rfl) h
    · have h := im h c20
      refine lv_iconst (v := 1) hx hb dX1_moveWarder_23 (by decide) ?_
      refine lv_iload_n hx hb dX1_moveWarder_24 rfl (lv_at hl 2 rfl) ?_
      refine lv_ishl hx hb dX1_moveWarder_25 ?_
      obtain ⟨v20, ev20, h⟩ := lb h
      refine tn_i ev20 ?_
      refine lv_istore_n (lv' := [(3, .int v20), (0, .ref (ad 6)), (1, .int x1), (2, .int x2)]) hx hb dX1_moveWarder_26 rfl hl (by decide) rfl (fun ls hl => ?_)
      refine lv_iconst (v := 0) hx hb dX1_moveWarder_27 (by decide) ?_
      refine lv_istore (lv' := [(4, .int 0), (3, .int v20), (0, .ref (ad 6)), (1, .int x1), (2, .int x2)]) hx hb dX1_moveWarder_28 hl (by decide) rfl (fun ls hl => ?_)
      exact w_X1_moveWarder_30 C hR ih hk5 _ _ _ _ _ _ Z (lv_sub hl [2, 3, 4, 1, 0] rfl) h
set_option maxRecDepth 20000 in
theorem w_X1_moveWarder_5 {p : Program} {l : Launch} {e : Env} {s : State} {m : MethodId} {args : Array Value} {below : List Frame} {meth : Method} {c : Code} {Q : State → Prop} {D : va_G} {kc : Nat → ClassId} {ad : Nat → Nat} {A : Nat → Prop} {adK adV : Nat → Nat} (C : Cx (eC adK adV) p s m args c cX1_moveWarder 6 RX1 D kc A) {R : St} (hR : RTv 0 0 p l e r_X1_moveWarder s m args below meth c cX1_moveWarder tC kc ad D A Q R) : ∀ (n : Nat) (x1 : Int32) (σ : St) (H : Heap) (locs : List Loc) (ls : Array Slot), Dy tC kc ad D A s.heap σ H locs → lv_has ls 6 [(0, .ref (ad 6)), (1, .int x1)] → f_X1_moveWarder_5 n x1 σ = some R → W p l e r_X1_moveWarder s m args below meth c H locs 0 0 Q (F0 m 5 ls []) := by
  have hx := C.1.1
  have hb := C.1.2.1
  intro n
  induction n with
  | zero =>
    intro x1 σ H locs ls Z hl h
    exact absurd (show none = some R from h) (by simp)
  | succ n ih =>
    intro x1 σ H locs ls Z hl h
    rw [f_X1_moveWarder_5] at h
    refine lv_iload_n hx hb dX1_moveWarder_5 rfl (lv_at hl 1 rfl) ?_
    refine lv_aload_n hx hb dX1_moveWarder_6 rfl (lv_at hl 0 rfl) ?_
    refine rg_X1_52 C Z dX1_moveWarder_7 ?_
    refine lv_icmp_gt (tgt := 115) hx hb dX1_moveWarder_10 (by decide) (fun c10 => ?_) (fun c10 => ?_)
    · have h := ip h c10
      obtain rfl := Option.some.inj h
      exact hR _ _ _ _ Z dX1_moveWarder_115
    · have h := im h c10
      refine lv_iconst (v := 0) hx hb dX1_moveWarder_13 (by decide) ?_
      refine lv_istore_n (lv' := [(2, .int 0), (0, .ref (ad 6)), (1, .int x1)]) hx hb dX1_moveWarder_14 rfl hl (by decide) rfl (fun ls hl => ?_)
      exact w_X1_moveWarder_15 C hR ih _ _ _ _ _ _ Z (lv_sub hl [1, 2, 0] rfl) h
set_option maxRecDepth 20000 in
theorem w_X1_moveWarder_0 {p : Program} {l : Launch} {e : Env} {s : State} {m : MethodId} {args : Array Value} {below : List Frame} {meth : Method} {c : Code} {Q : State → Prop} {D : va_G} {kc : Nat → ClassId} {ad : Nat → Nat} {A : Nat → Prop} {adK adV : Nat → Nat} (C : Cx (eC adK adV) p s m args c cX1_moveWarder 6 RX1 D kc A) {R : St} {σ : St} (hR : RTv 0 0 p l e r_X1_moveWarder s m args below meth c cX1_moveWarder tC kc ad D A Q R) {H : Heap} {locs : List Loc} {ls : Array Slot} (Z : Dy tC kc ad D A s.heap σ H locs) (hl : lv_has ls 6 [(0, .ref (ad 6))]) (h : f_X1_moveWarder σ = some R) : W p l e r_X1_moveWarder s m args below meth c H locs 0 0 Q (F0 m 0 ls []) := by
  have hx := C.1.1
  have hb := C.1.2.1
  unfold f_X1_moveWarder at h
  refine lv_aload_n hx hb dX1_moveWarder_0 rfl (lv_at hl 0 rfl) ?_
  refine rg_X1_49 C Z dX1_moveWarder_1 ?_
  obtain ⟨v19, ev19, h⟩ := lb h
  refine tn_i ev19 ?_
  refine lv_istore_n (lv' := [(1, .int v19), (0, .ref (ad 6))]) hx hb dX1_moveWarder_4 rfl hl (by decide) rfl (fun ls hl => ?_)
  exact w_X1_moveWarder_5 C hR _ _ _ _ _ _ Z (lv_sub hl [1, 0] rfl) h
theorem k_X1_moveWarder {l : Launch} {kc : Nat → ClassId} {ad : Nat → Nat} {D : va_G} {adK adV : Nat → Nat} {σ : St} {R : St} (h : f_X1_moveWarder σ = some R) : KC (eC adK adV) tC kc ad D l yX1_moveWarder (.code yX1_moveWarder cX1_moveWarder 6 none) r_X1_moveWarder [.ref (ad 6)] none σ R := by
  refine g_enter (by decide) (Nat.le_of_ble_eq_true rfl) ?_
  intro p e s m args below meth c A hA C hr hlocks Z ls hl
  have hl : lv_has ls 6 [(0, .ref (ad 6))] := hl
  exact w_X1_moveWarder_0 C (g_RTv C.1.1 C.1.2.1 hr hlocks hA)  Z hl h
def r_X1_has : Room := { frames := 1, cells := 0, slots := 0, locals := 22 }
set_option maxRecDepth 20000 in
theorem w_X1_has_37 {p : Program} {l : Launch} {e : Env} {s : State} {m : MethodId} {args : Array Value} {below : List Frame} {meth : Method} {c : Code} {Q : State → Prop} {D : va_G} {kc : Nat → ClassId} {ad : Nat → Nat} {A : Nat → Prop} {adK adV : Nat → Nat} (C : Cx (eC adK adV) p s m args c cX1_has 5 RX1 D kc A) {R : Int32} {σ : St} (hR : RTi 0 0 p l e r_X1_has s m args below meth c cX1_has tC kc ad D A Q .boolean R σ) {H : Heap} {locs : List Loc} {ls : Array Slot} (Z : Dy tC kc ad D A s.heap σ H locs) (hl : lv_has ls 5 []) (h : f_X1_has_37 σ = some R) : W p l e r_X1_has s m args below meth c H locs 0 0 Q (F0 m 37 ls []) := by
  have hx := C.1.1
  have hb := C.1.2.1
  unfold f_X1_has_37 at h
  refine lv_iconst (v := 0) hx hb dX1_has_37 (by decide) ?_
  obtain rfl := Option.some.inj h
  exact hR _ _ _ _ _ Z dX1_has_38 rfl
set_option maxRecDepth 20000 in
theorem w_X1_has_0 {p : Program} {l : Launch} {e : Env} {s : State} {m : MethodId} {args : Array Value} {below : List Frame} {meth : Method} {c : Code} {Q : State → Prop} {D : va_G} {kc : Nat → ClassId} {ad : Nat → Nat} {A : Nat → Prop} {adK adV : Nat → Nat} (C : Cx (eC adK adV) p s m args c cX1_has 5 RX1 D kc A) {R : Int32} {a0 : Nat} {x1 : Int32} {x2 : Int32} {x3 : Int32} {σ : St} (hR : RTi 0 0 p l e r_X1_has s m args below meth c cX1_has tC kc ad D A Q .boolean R σ) (ha0 : isArr tC 0 a0) {H : Heap} {locs : List Loc} {ls : Array Slot} (Z : Dy tC kc ad D A s.heap σ H locs) (hl : lv_has ls 5 [(0, .ref (ad a0)), (1, .int x1), (2, .int x2), (3, .int x3)]) (h : f_X1_has a0 x1 x2 x3 σ = some R) : W p l e r_X1_has s m args below meth c H locs 0 0 Q (F0 m 0 ls []) := by
  have hx := C.1.1
  have hb := C.1.2.1
  unfold f_X1_has at h
  refine lv_iload_n hx hb dX1_has_0 rfl (lv_at hl 2 rfl) ?_
  refine lv_bipush (v := 25) hx hb dX1_has_1 (by decide) ?_
  refine lv_imul hx hb dX1_has_3 ?_
  refine lv_iload_n hx hb dX1_has_4 rfl (lv_at hl 1 rfl) ?_
  refine lv_iadd hx hb dX1_has_5 ?_
  obtain ⟨v5, ev5, h⟩ := lb h
  refine tn_i ev5 ?_
  refine lv_istore (lv' := [(4, .int v5), (0, .ref (ad a0)), (1, .int x1), (2, .int x2), (3, .int x3)]) hx hb dX1_has_6 hl (by decide) rfl (fun ls hl => ?_)
  refine lv_iload hx hb dX1_has_8 (lv_at hl 0 rfl) ?_
  refine lv_iconst (v := 0) hx hb dX1_has_10 (by decide) ?_
  refine lv_aload_n hx hb dX1_has_11 rfl (lv_at hl 1 rfl) ?_
  refine g_len C Z ha0 (by decide) (v := lenI tC σ a0) rfl dX1_has_12 ?_
  refine lv_iconst (v := 1) hx hb dX1_has_13 (by decide) ?_
  refine lv_isub hx hb dX1_has_14 ?_
  refine g_callNi (eC_ok adK adV) C Z (k_X10_lies v5 0 ((lenI tC σ a0) - 1) σ) (C.2.2.2.1 _ nw_X1_65) lkn_X10_lies hl (by decide) rfl (Nat.le_of_ble_eq_true rfl) (rest := []) rfl dX1_has_15 (fun H locs Z => ?_)
  refine lv_if_eq (tgt := 37) hx hb dX1_has_18 (by decide) (fun c18 => ?_) (fun c18 => ?_)
  · have h := ip h c18
    exact w_X1_has_37 C hR Z (lv_sub hl [] rfl) h
  · have h := im h c18
    refine lv_aload_n hx hb dX1_has_21 rfl (lv_at hl 1 rfl) ?_
    refine lv_iload hx hb dX1_has_22 (lv_at hl 0 rfl) ?_
    obtain ⟨v6, hv6, h⟩ := ob h
    refine g_iald C Z ha0 hv6 dX1_has_24 ?_
    refine lv_iload_n hx hb dX1_has_25 rfl (lv_at hl 4 rfl) ?_
    refine lv_iushr (v := ushr v6 x3) hx hb dX1_has_26 rfl ?_
    refine lv_iconst (v := 1) hx hb dX1_has_27 (by decide) ?_
    refine lv_iand hx hb dX1_has_28 ?_
    refine lv_iconst (v := 1) hx hb dX1_has_29 (by decide) ?_
    refine lv_icmp_ne (tgt := 37) hx hb dX1_has_30 (by decide) (fun c30 => ?_) (fun c30 => ?_)
    · have h := im h c30
      exact w_X1_has_37 C hR Z (lv_sub hl [] rfl) h
    · have h := ip h c30
      refine lv_iconst (v := 1) hx hb dX1_has_33 (by decide) ?_
      refine lv_goto (tgt := 38) hx hb dX1_has_34 (by decide) ?_
      obtain rfl := Option.some.inj h
      exact hR _ _ _ _ _ Z dX1_has_38 rfl
theorem k_X1_has {l : Launch} {kc : Nat → ClassId} {ad : Nat → Nat} {D : va_G} {adK adV : Nat → Nat} {a0 : Nat} (ha0 : isArr tC 0 a0) {x1 : Int32} {x2 : Int32} {x3 : Int32} {σ : St} {R : Int32} (h : f_X1_has a0 x1 x2 x3 σ = some R) : KC (eC adK adV) tC kc ad D l yX1_has (.code yX1_has cX1_has 5 (some .boolean)) r_X1_has [.ref (ad a0), .int x1, .int x2, .int x3] (some (.int R)) σ σ := by
  refine g_enter (by decide) (Nat.le_of_ble_eq_true rfl) ?_
  intro p e s m args below meth c A hA C hr hlocks Z ls hl
  have hl : lv_has ls 5 [(0, .ref (ad a0)), (1, .int x1), (2, .int x2), (3, .int x3)] := hl
  exact w_X1_has_0 C (g_RTi C.1.1 C.1.2.1 hr hlocks hA) ha0 Z hl h
def r_X1_leastMove : Room := { frames := 2, cells := 0, slots := 0, locals := 46 }
set_option maxRecDepth 20000 in
theorem w_X1_leastMove_75 {p : Program} {l : Launch} {e : Env} {s : State} {m : MethodId} {args : Array Value} {below : List Frame} {meth : Method} {c : Code} {Q : State → Prop} {D : va_G} {kc : Nat → ClassId} {ad : Nat → Nat} {A : Nat → Prop} {adK adV : Nat → Nat} (C : Cx (eC adK adV) p s m args c cX1_leastMove 7 RX1 D kc A) {R : Int32} {x1 : Int32} {x2 : Int32} {x3 : Int32} {x4 : Int32} {σ : St} (hR : RTi 0 0 p l e r_X1_leastMove s m args below meth c cX1_leastMove tC kc ad D A Q .int R σ) {k3 : Int32 → Option (Int32)} (hk3 : ∀ (x4 : Int32) (H : Heap) (locs : List Loc) (ls : Array Slot), Dy tC kc ad D A s.heap σ H locs → lv_has ls 7 [(0, .ref (ad 6)), (1, .int x1), (2, .int x2), (3, .int x3), (4, .int x4)] → k3 x4 = some R → W p l e r_X1_leastMove s m args below meth c H locs 0 0 Q (F0 m 3 ls [])) {H : Heap} {locs : List Loc} {ls : Array Slot} (Z : Dy tC kc ad D A s.heap σ H locs) (hl : lv_has ls 7 [(0, .ref (ad 6)), (1, .int x1), (2, .int x2), (3, .int x3), (4, .int x4)]) (h : f_X1_leastMove_75 x1 x2 x3 x4 σ k3 = some R) : W p l e r_X1_leastMove s m args below meth c H locs 0 0 Q (F0 m 75 ls []) := by
  have hx := C.1.1
  have hb := C.1.2.1
  unfold f_X1_leastMove_75 at h
  obtain ⟨v12, ev12, h⟩ := lb h
  refine lv_iinc (v := v12) (lv' := [(4, .int v12), (0, .ref (ad 6)), (1, .int x1), (2, .int x2), (3, .int x3)]) hx hb dX1_leastMove_75 hl (k := 4) rfl (by rw [ev12]; rfl) (by decide) rfl (fun ls hl => ?_)
  refine lv_goto (tgt := 3) hx hb dX1_leastMove_78 (by decide) ?_
  exact hk3 _ _ _ _ Z (lv_sub hl [1, 2, 3, 4, 0] rfl) h
set_option maxRecDepth 20000 in
theorem w_X1_leastMove_44 {p : Program} {l : Launch} {e : Env} {s : State} {m : MethodId} {args : Array Value} {below : List Frame} {meth : Method} {c : Code} {Q : State → Prop} {D : va_G} {kc : Nat → ClassId} {ad : Nat → Nat} {A : Nat → Prop} {adK adV : Nat → Nat} (C : Cx (eC adK adV) p s m args c cX1_leastMove 7 RX1 D kc A) {R : Int32} {x1 : Int32} {x2 : Int32} {x3 : Int32} {x4 : Int32} {y0 : Int32} {σ : St} (hR : RTi 0 0 p l e r_X1_leastMove s m args below meth c cX1_leastMove tC kc ad D A Q .int R σ) {k3 : Int32 → Option (Int32)} (hk3 : ∀ (x4 : Int32) (H : Heap) (locs : List Loc) (ls : Array Slot), Dy tC kc ad D A s.heap σ H locs → lv_has ls 7 [(0, .ref (ad 6)), (1, .int x1), (2, .int x2), (3, .int x3), (4, .int x4)] → k3 x4 = some R → W p l e r_X1_leastMove s m args below meth c H locs 0 0 Q (F0 m 3 ls [])) {H : Heap} {locs : List Loc} {ls : Array Slot} (Z : Dy tC kc ad D A s.heap σ H locs) (hl : lv_has ls 7 [(0, .ref (ad 6)), (1, .int x1), (2, .int x2), (3, .int x3), (4, .int x4)]) (h : f_X1_leastMove_44 x1 x2 x3 x4 y0 σ k3 = some R) : W p l e r_X1_leastMove s m args below meth c H locs 0 0 Q (F0 m 44 ls [.int y0]) := by
  have hx := C.1.1
  have hb := C.1.2.1
  unfold f_X1_leastMove_44 at h
  refine lv_istore (lv' := [(6, .int y0), (0, .ref (ad 6)), (1, .int x1), (2, .int x2), (3, .int x3), (4, .int x4)]) hx hb dX1_leastMove_44 hl (by decide) rfl (fun ls hl => ?_)
  refine lv_iload hx hb dX1_leastMove_46 (lv_at hl 0 rfl) ?_
  refine lv_iconst (v := (-1)) hx hb dX1_leastMove_48 (by decide) ?_
  refine lv_icmp_eq (tgt := 75) hx hb dX1_leastMove_49 (by decide) (fun c49 => ?_) (fun c49 => ?_)
  · have h := ip h c49
    exact w_X1_leastMove_75 C hR hk3 Z (lv_sub hl [1, 2, 3, 4, 5] rfl) h
  · have h := im h c49
    refine lv_iload hx hb dX1_leastMove_52 (lv_at hl 0 rfl) ?_
    refine lv_iload_n hx hb dX1_leastMove_54 rfl (lv_at hl 4 rfl) ?_
    refine lv_icmp_eq (tgt := 75) hx hb dX1_leastMove_55 (by decide) (fun c55 => ?_) (fun c55 => ?_)
    · have h := ip h c55
      exact w_X1_leastMove_75 C hR hk3 Z (lv_sub hl [1, 2, 3, 4, 5] rfl) h
    · have h := im h c55
      refine lv_aload_n hx hb dX1_leastMove_58 rfl (lv_at hl 1 rfl) ?_
      refine rg_X1_18 C Z dX1_leastMove_59 ?_
      refine lv_iload hx hb dX1_leastMove_62 (lv_at hl 0 rfl) ?_
      refine lv_iload_n hx hb dX1_leastMove_64 rfl (lv_at hl 4 rfl) ?_
      refine lv_iload_n hx hb dX1_leastMove_65 rfl (lv_at hl 2 rfl) ?_
      obtain ⟨v11, hv11, h⟩ := ob h
      refine g_callSi (eC_ok adK adV) C Z (k_X1_has iaC48 hv11) lk_X1_81 hl (by decide) rfl (Nat.le_of_ble_eq_true rfl) (rest := []) rfl dX1_leastMove_66 (fun H locs Z => ?_)
      refine lv_if_eq (tgt := 75) hx hb dX1_leastMove_69 (by decide) (fun c69 => ?_) (fun c69 => ?_)
      · have h := ip h c69
        exact w_X1_leastMove_75 C hR hk3 Z (lv_sub hl [1, 2, 3, 4, 5] rfl) h
      · have h := im h c69
        refine lv_iload hx hb dX1_leastMove_72 (lv_at hl 0 rfl) ?_
        obtain rfl := Option.some.inj h
        exact hR _ _ _ _ _ Z dX1_leastMove_74 rfl
set_option maxRecDepth 20000 in
theorem w_X1_leastMove_3 {p : Program} {l : Launch} {e : Env} {s : State} {m : MethodId} {args : Array Value} {below : List Frame} {meth : Method} {c : Code} {Q : State → Prop} {D : va_G} {kc : Nat → ClassId} {ad : Nat → Nat} {A : Nat → Prop} {adK adV : Nat → Nat} (C : Cx (eC adK adV) p s m args c cX1_leastMove 7 RX1 D kc A) {R : Int32} {x1 : Int32} {x2 : Int32} {x3 : Int32} {σ : St} (hR : RTi 0 0 p l e r_X1_leastMove s m args below meth c cX1_leastMove tC kc ad D A Q .int R σ) : ∀ (n : Nat) (x4 : Int32) (H : Heap) (locs : List Loc) (ls : Array Slot), Dy tC kc ad D A s.heap σ H locs → lv_has ls 7 [(0, .ref (ad 6)), (1, .int x1), (2, .int x2), (3, .int x3), (4, .int x4)] → f_X1_leastMove_3 x1 x2 x3 σ n x4 = some R → W p l e r_X1_leastMove s m args below meth c H locs 0 0 Q (F0 m 3 ls []) := by
  have hx := C.1.1
  have hb := C.1.2.1
  intro n
  induction n with
  | zero =>
    intro x4 H locs ls Z hl h
    exact absurd (show none = some R from h) (by simp)
  | succ n ih =>
    intro x4 H locs ls Z hl h
    rw [f_X1_leastMove_3] at h
    refine lv_iload hx hb dX1_leastMove_3 (lv_at hl 4 rfl) ?_
    refine lv_iconst (v := 5) hx hb dX1_leastMove_5 (by decide) ?_
    refine lv_icmp_ge (tgt := 81) hx hb dX1_leastMove_6 (by decide) (fun c6 => ?_) (fun c6 => ?_)
    · have h := ip h c6
      refine lv_iconst (v := (-1)) hx hb dX1_leastMove_81 (by decide) ?_
      obtain rfl := Option.some.inj h
      exact hR _ _ _ _ _ Z dX1_leastMove_82 rfl
    · have h := im h c6
      refine lv_iload_n hx hb dX1_leastMove_9 rfl (lv_at hl 2 rfl) ?_
      refine lv_iconst (v := 5) hx hb dX1_leastMove_10 (by decide) ?_
      refine lv_imul hx hb dX1_leastMove_11 ?_
      refine lv_iload hx hb dX1_leastMove_12 (lv_at hl 4 rfl) ?_
      refine lv_iadd hx hb dX1_leastMove_14 ?_
      obtain ⟨v9, ev9, h⟩ := lb h
      refine tn_i ev9 ?_
      refine lv_istore (lv' := [(5, .int v9), (0, .ref (ad 6)), (1, .int x1), (2, .int x2), (3, .int x3), (4, .int x4)]) hx hb dX1_leastMove_15 hl (by decide) rfl (fun ls hl => ?_)
      refine lv_iload hx hb dX1_leastMove_17 (lv_at hl 0 rfl) ?_
      refine lv_iconst (v := 0) hx hb dX1_leastMove_19 (by decide) ?_
      refine lv_aload_n hx hb dX1_leastMove_20 rfl (lv_at hl 1 rfl) ?_
      refine rg_X1_11 C Z dX1_leastMove_21 ?_
      refine g_len C Z iaC46 (by decide) (v := 130) rfl dX1_leastMove_24 ?_
      refine lv_iconst (v := 1) hx hb dX1_leastMove_25 (by decide) ?_
      refine lv_isub hx hb dX1_leastMove_26 ?_
      refine g_callNi (eC_ok adK adV) C Z (k_X10_lies v9 0 (130 - 1) σ) (C.2.2.2.1 _ nw_X1_65) lkn_X10_lies hl (by decide) rfl (Nat.le_of_ble_eq_true rfl) (rest := []) rfl dX1_leastMove_27 (fun H locs Z => ?_)
      refine lv_if_eq (tgt := 43) hx hb dX1_leastMove_30 (by decide) (fun c30 => ?_) (fun c30 => ?_)
      · have h := ip h c30
        refine lv_iconst (v := (-1)) hx hb dX1_leastMove_43 (by decide) ?_
        exact w_X1_leastMove_44 C hR ih Z (lv_sub hl [1, 2, 3, 4, 5] rfl) h
      · have h := im h c30
        refine lv_aload_n hx hb dX1_leastMove_33 rfl (lv_at hl 1 rfl) ?_
        refine rg_X1_11 C Z dX1_leastMove_34 ?_
        refine lv_iload hx hb dX1_leastMove_37 (lv_at hl 0 rfl) ?_
        obtain ⟨v10, hv10, h⟩ := ob h
        refine g_iald C Z iaC46 hv10 dX1_leastMove_39 ?_
        refine lv_goto (tgt := 44) hx hb dX1_leastMove_40 (by decide) ?_
        exact w_X1_leastMove_44 C hR ih Z (lv_sub hl [1, 2, 3, 4, 5] rfl) h
set_option maxRecDepth 20000 in
theorem w_X1_leastMove_0 {p : Program} {l : Launch} {e : Env} {s : State} {m : MethodId} {args : Array Value} {below : List Frame} {meth : Method} {c : Code} {Q : State → Prop} {D : va_G} {kc : Nat → ClassId} {ad : Nat → Nat} {A : Nat → Prop} {adK adV : Nat → Nat} (C : Cx (eC adK adV) p s m args c cX1_leastMove 7 RX1 D kc A) {R : Int32} {x1 : Int32} {x2 : Int32} {x3 : Int32} {σ : St} (hR : RTi 0 0 p l e r_X1_leastMove s m args below meth c cX1_leastMove tC kc ad D A Q .int R σ) {H : Heap} {locs : List Loc} {ls : Array Slot} (Z : Dy tC kc ad D A s.heap σ H locs) (hl : lv_has ls 7 [(0, .ref (ad 6)), (1, .int x1), (2, .int x2), (3, .int x3)]) (h : f_X1_leastMove x1 x2 x3 σ = some R) : W p l e r_X1_leastMove s m args below meth c H locs 0 0 Q (F0 m 0 ls []) := by
  have hx := C.1.1
  have hb := C.1.2.1
  unfold f_X1_leastMove at h
  refine lv_iconst (v := 0) hx hb dX1_leastMove_0 (by decide) ?_
  refine lv_istore (lv' := [(4, .int 0), (0, .ref (ad 6)), (1, .int x1), (2, .int x2), (3, .int x3)]) hx hb dX1_leastMove_1 hl (by decide) rfl (fun ls hl => ?_)
  exact w_X1_leastMove_3 C hR _ _ _ _ _ Z (lv_sub hl [1, 2, 3, 4, 0] rfl) h
theorem k_X1_leastMove {l : Launch} {kc : Nat → ClassId} {ad : Nat → Nat} {D : va_G} {adK adV : Nat → Nat} {x1 : Int32} {x2 : Int32} {x3 : Int32} {σ : St} {R : Int32} (h : f_X1_leastMove x1 x2 x3 σ = some R) : KC (eC adK adV) tC kc ad D l yX1_leastMove (.code yX1_leastMove cX1_leastMove 7 (some .int)) r_X1_leastMove [.ref (ad 6), .int x1, .int x2, .int x3] (some (.int R)) σ σ := by
  refine g_enter (by decide) (Nat.le_of_ble_eq_true rfl) ?_
  intro p e s m args below meth c A hA C hr hlocks Z ls hl
  have hl : lv_has ls 7 [(0, .ref (ad 6)), (1, .int x1), (2, .int x2), (3, .int x3)] := hl
  exact w_X1_leastMove_0 C (g_RTi C.1.1 C.1.2.1 hr hlocks hA)  Z hl h
def r_X1_play : Room := { frames := 3, cells := 0, slots := 0, locals := 72 }
set_option maxRecDepth 20000 in
theorem w_X1_play_60 {p : Program} {l : Launch} {e : Env} {s : State} {m : MethodId} {args : Array Value} {below : List Frame} {meth : Method} {c : Code} {Q : State → Prop} {D : va_G} {kc : Nat → ClassId} {ad : Nat → Nat} {A : Nat → Prop} {adK adV : Nat → Nat} (C : Cx (eC adK adV) p s m args c cX1_play 7 RX1 D kc A) {R : Int32 × St} {x1 : Int32} {x2 : Int32} {x5 : Int32} {x6 : Int32} {σ : St} (hR : RTi 0 0 p l e r_X1_play s m args below meth c cX1_play tC kc ad D A Q .int R.1 R.2) {H : Heap} {locs : List Loc} {ls : Array Slot} (Z : Dy tC kc ad D A s.heap σ H locs) (hl : lv_has ls 7 [(0, .ref (ad 6)), (1, .int x1), (2, .int x2), (5, .int x5), (6, .int x6)]) (h : f_X1_play_60 x1 x2 x5 x6 σ = some R) : W p l e r_X1_play s m args below meth c H locs 0 0 Q (F0 m 60 ls []) := by
  have hx := C.1.1
  have hb := C.1.2.1
  unfold f_X1_play_60 at h
  refine lv_aload_n hx hb dX1_play_60 rfl (lv_at hl 0 rfl) ?_
  refine lv_aload_n hx hb dX1_play_61 rfl (lv_at hl 0 rfl) ?_
  refine lv_iload_n hx hb dX1_play_62 rfl (lv_at hl 1 rfl) ?_
  refine lv_iload_n hx hb dX1_play_63 rfl (lv_at hl 2 rfl) ?_
  refine lv_iload hx hb dX1_play_64 (lv_at hl 3 rfl) ?_
  obtain ⟨v24, hv24, h⟩ := ob h
  refine g_callVi (eC_ok adK adV) C Z (k_X1_leastMove hv24) lk_X1_85 (by decide) rfl rfl hl (by decide) rfl (Nat.le_of_ble_eq_true rfl) (rest := [.ref (ad 6)]) rfl dX1_play_66 (fun H locs Z => ?_)
  obtain ⟨σ25, eσ25, h⟩ := lb h
  refine rp_X1_24 C Z eσ25 dX1_play_69 (fun H locs Z => ?_)
  refine lv_iload hx hb dX1_play_72 (lv_at hl 4 rfl) ?_
  obtain rfl := Option.some.inj h
  exact hR _ _ _ _ _ Z dX1_play_74 rfl
set_option maxRecDepth 20000 in
theorem w_X1_play_27 {p : Program} {l : Launch} {e : Env} {s : State} {m : MethodId} {args : Array Value} {below : List Frame} {meth : Method} {c : Code} {Q : State → Prop} {D : va_G} {kc : Nat → ClassId} {ad : Nat → Nat} {A : Nat → Prop} {adK adV : Nat → Nat} (C : Cx (eC adK adV) p s m args c cX1_play 7 RX1 D kc A) {R : Int32 × St} {x1 : Int32} {x2 : Int32} {x4 : Int32} {x5 : Int32} (hR : RTi 0 0 p l e r_X1_play s m args below meth c cX1_play tC kc ad D A Q .int R.1 R.2) : ∀ (n : Nat) (x6 : Int32) (σ : St) (H : Heap) (locs : List Loc) (ls : Array Slot), Dy tC kc ad D A s.heap σ H locs → lv_has ls 7 [(0, .ref (ad 6)), (1, .int x1), (2, .int x2), (4, .int x4), (5, .int x5), (6, .int x6)] → f_X1_play_27 x1 x2 x4 x5 n x6 σ = some R → W p l e r_X1_play s m args below meth c H locs 0 0 Q (F0 m 27 ls []) := by
  have hx := C.1.1
  have hb := C.1.2.1
  intro n
  induction n with
  | zero =>
    intro x6 σ H locs ls Z hl h
    exact absurd (show none = some R from h) (by simp)
  | succ n ih =>
    intro x6 σ H locs ls Z hl h
    rw [f_X1_play_27] at h
    refine lv_iload hx hb dX1_play_27 (lv_at hl 5 rfl) ?_
    refine lv_iload hx hb dX1_play_29 (lv_at hl 3 rfl) ?_
    refine lv_icmp_gt (tgt := 81) hx hb dX1_play_31 (by decide) (fun c31 => ?_) (fun c31 => ?_)
    · have h := ip h c31
      refine lv_bipush (v := (-2)) hx hb dX1_play_81 (by decide) ?_
      obtain rfl := Option.some.inj h
      exact hR _ _ _ _ _ Z dX1_play_83 rfl
    · have h := im h c31
      refine lv_aload_n hx hb dX1_play_34 rfl (lv_at hl 0 rfl) ?_
      obtain ⟨σ19, hσ19, h⟩ := ob h
      refine g_callVv (eC_ok adK adV) C Z (k_X1_moveTrawler hσ19) lk_X1_72 (by decide) rfl rfl hl (by decide) rfl (Nat.le_of_ble_eq_true rfl) (rest := []) rfl dX1_play_35 (fun H locs Z => ?_)
      refine lv_aload_n hx hb dX1_play_38 rfl (lv_at hl 0 rfl) ?_
      obtain ⟨σ20, hσ20, h⟩ := ob h
      refine g_callVv (eC_ok adK adV) C Z (k_X1_moveFrigate hσ20) lk_X1_75 (by decide) rfl rfl hl (by decide) rfl (Nat.le_of_ble_eq_true rfl) (rest := []) rfl dX1_play_39 (fun H locs Z => ?_)
      refine lv_aload_n hx hb dX1_play_42 rfl (lv_at hl 0 rfl) ?_
      obtain ⟨σ21, hσ21, h⟩ := ob h
      refine g_callVv (eC_ok adK adV) C Z (k_X1_moveWarder hσ21) lk_X1_78 (by decide) rfl rfl hl (by decide) rfl (Nat.le_of_ble_eq_true rfl) (rest := []) rfl dX1_play_43 (fun H locs Z => ?_)
      refine lv_aload_n hx hb dX1_play_46 rfl (lv_at hl 0 rfl) ?_
      refine rg_X1_15 C Z dX1_play_47 ?_
      refine lv_iload_n hx hb dX1_play_50 rfl (lv_at hl 2 rfl) ?_
      refine lv_iload hx hb dX1_play_51 (lv_at hl 4 rfl) ?_
      refine lv_iload_n hx hb dX1_play_53 rfl (lv_at hl 1 rfl) ?_
      obtain ⟨v22, hv22, h⟩ := ob h
      refine g_callSi (eC_ok adK adV) C Z (k_X1_has iaC47 hv22) lk_X1_81 hl (by decide) rfl (Nat.le_of_ble_eq_true rfl) (rest := []) rfl dX1_play_54 (fun H locs Z => ?_)
      refine lv_if_eq (tgt := 75) hx hb dX1_play_57 (by decide) (fun c57 => ?_) (fun c57 => ?_)
      · have h := ip h c57
        obtain ⟨v23, ev23, h⟩ := lb h
        refine lv_iinc (v := v23) (lv' := [(6, .int v23), (0, .ref (ad 6)), (1, .int x1), (2, .int x2), (4, .int x4), (5, .int x5)]) hx hb dX1_play_75 hl (k := 5) rfl (by rw [ev23]; rfl) (by decide) rfl (fun ls hl => ?_)
        refine lv_goto (tgt := 27) hx hb dX1_play_78 (by decide) ?_
        exact ih _ _ _ _ _ Z (lv_sub hl [1, 2, 3, 4, 5, 0] rfl) h
      · have h := im h c57
        exact w_X1_play_60 C hR Z (lv_sub hl [0, 1, 2, 4, 5] rfl) h
set_option maxRecDepth 20000 in
theorem w_X1_play_0 {p : Program} {l : Launch} {e : Env} {s : State} {m : MethodId} {args : Array Value} {below : List Frame} {meth : Method} {c : Code} {Q : State → Prop} {D : va_G} {kc : Nat → ClassId} {ad : Nat → Nat} {A : Nat → Prop} {adK adV : Nat → Nat} (C : Cx (eC adK adV) p s m args c cX1_play 7 RX1 D kc A) {R : Int32 × St} {x1 : Int32} {x2 : Int32} {x3 : Int32} {x4 : Int32} {σ : St} (hR : RTi 0 0 p l e r_X1_play s m args below meth c cX1_play tC kc ad D A Q .int R.1 R.2) {H : Heap} {locs : List Loc} {ls : Array Slot} (Z : Dy tC kc ad D A s.heap σ H locs) (hl : lv_has ls 7 [(0, .ref (ad 6)), (1, .int x1), (2, .int x2), (3, .int x3), (4, .int x4)]) (h : f_X1_play x1 x2 x3 x4 σ = some R) : W p l e r_X1_play s m args below meth c H locs 0 0 Q (F0 m 0 ls []) := by
  have hx := C.1.1
  have hb := C.1.2.1
  unfold f_X1_play at h
  refine lv_iload_n hx hb dX1_play_0 rfl (lv_at hl 1 rfl) ?_
  refine lv_iload_n hx hb dX1_play_1 rfl (lv_at hl 2 rfl) ?_
  refine lv_icmp_ne (tgt := 7) hx hb dX1_play_2 (by decide) (fun c2 => ?_) (fun c2 => ?_)
  · have h := im h c2
    refine lv_iload_n hx hb dX1_play_7 rfl (lv_at hl 3 rfl) ?_
    refine lv_iconst (v := (-1)) hx hb dX1_play_8 (by decide) ?_
    obtain ⟨v17, ev17, h⟩ := lb h
    have hj : W p l e r_X1_play s m args below meth c H locs 0 0 Q (F0 m 18 ls [.int v17]) := by
      refine lv_istore (lv' := [(5, .int v17), (0, .ref (ad 6)), (1, .int x1), (2, .int x2), (3, .int x3), (4, .int x4)]) hx hb dX1_play_18 hl (by decide) rfl (fun ls hl => ?_)
      refine lv_aload_n hx hb dX1_play_20 rfl (lv_at hl 1 rfl) ?_
      obtain ⟨σ18, hσ18, h⟩ := ob h
      refine g_callVv (eC_ok adK adV) C Z (k_X1_beginRows hσ18) lk_X1_69 (by decide) rfl rfl hl (by decide) rfl (Nat.le_of_ble_eq_true rfl) (rest := []) rfl dX1_play_21 (fun H locs Z => ?_)
      refine lv_iconst (v := 1) hx hb dX1_play_24 (by decide) ?_
      refine lv_istore (lv' := [(6, .int 1), (5, .int v17), (0, .ref (ad 6)), (1, .int x1), (2, .int x2), (3, .int x3), (4, .int x4)]) hx hb dX1_play_25 hl (by decide) rfl (fun ls hl => ?_)
      exact w_X1_play_27 C hR _ _ _ _ _ _ Z (lv_sub hl [2, 3, 4, 6, 1, 0] rfl) h
    refine lv_icmp_ne (tgt := 17) hx hb dX1_play_9 (by decide) (fun c9 => ?_) (fun c9 => ?_)
    · rw [if_neg c9] at ev17
      refine lv_iload_n hx hb dX1_play_17 rfl (lv_at hl 3 rfl) ?_
      exact tn_i ev17 hj
    · rw [if_pos c9] at ev17
      refine lv_bipush (v := 25) hx hb dX1_play_12 (by decide) ?_
      refine lv_goto (tgt := 18) hx hb dX1_play_14 (by decide) ?_
      exact tn_i ev17 hj
  · have h := ip h c2
    refine lv_iconst (v := 0) hx hb dX1_play_5 (by decide) ?_
    obtain rfl := Option.some.inj h
    exact hR _ _ _ _ _ Z dX1_play_6 rfl
theorem k_X1_play {l : Launch} {kc : Nat → ClassId} {ad : Nat → Nat} {D : va_G} {adK adV : Nat → Nat} {x1 : Int32} {x2 : Int32} {x3 : Int32} {x4 : Int32} {σ : St} {R : Int32 × St} (h : f_X1_play x1 x2 x3 x4 σ = some R) : KC (eC adK adV) tC kc ad D l yX1_play (.code yX1_play cX1_play 7 (some .int)) r_X1_play [.ref (ad 6), .int x1, .int x2, .int x3, .int x4] (some (.int R.1)) σ R.2 := by
  refine g_enter (by decide) (Nat.le_of_ble_eq_true rfl) ?_
  intro p e s m args below meth c A hA C hr hlocks Z ls hl
  have hl : lv_has ls 7 [(0, .ref (ad 6)), (1, .int x1), (2, .int x2), (3, .int x3), (4, .int x4)] := hl
  exact w_X1_play_0 C (g_RTi C.1.1 C.1.2.1 hr hlocks hA)  Z hl h
def r_X2_has : Room := { frames := 0, cells := 0, slots := 0, locals := 0 }
set_option maxRecDepth 20000 in
theorem w_X2_has_16 {p : Program} {l : Launch} {e : Env} {s : State} {m : MethodId} {args : Array Value} {below : List Frame} {meth : Method} {c : Code} {Q : State → Prop} {D : va_G} {kc : Nat → ClassId} {ad : Nat → Nat} {A : Nat → Prop} {adK adV : Nat → Nat} (C : Cx (eC adK adV) p s m args c cX2_has 2 RX2 D kc A) {R : Int32} {σ : St} (hR : RTi 0 0 p l e r_X2_has s m args below meth c cX2_has tC kc ad D A Q .boolean R σ) {H : Heap} {locs : List Loc} {ls : Array Slot} (Z : Dy tC kc ad D A s.heap σ H locs) (hl : lv_has ls 2 []) (h : f_X2_has_16 σ = R) : W p l e r_X2_has s m args below meth c H locs 0 0 Q (F0 m 16 ls []) := by
  have hx := C.1.1
  have hb := C.1.2.1
  unfold f_X2_has_16 at h
  refine lv_iconst (v := 0) hx hb dX2_has_16 (by decide) ?_
  subst h
  exact hR _ _ _ _ _ Z dX2_has_17 rfl
set_option maxRecDepth 20000 in
theorem w_X2_has_0 {p : Program} {l : Launch} {e : Env} {s : State} {m : MethodId} {args : Array Value} {below : List Frame} {meth : Method} {c : Code} {Q : State → Prop} {D : va_G} {kc : Nat → ClassId} {ad : Nat → Nat} {A : Nat → Prop} {adK adV : Nat → Nat} (C : Cx (eC adK adV) p s m args c cX2_has 2 RX2 D kc A) {R : Int32} {x1 : Int32} {σ : St} (hR : RTi 0 0 p l e r_X2_has s m args below meth c cX2_has tC kc ad D A Q .boolean R σ) {H : Heap} {locs : List Loc} {ls : Array Slot} (Z : Dy tC kc ad D A s.heap σ H locs) (hl : lv_has ls 2 [(0, .ref (ad 4)), (1, .int x1)]) (h : f_X2_has x1 σ = R) : W p l e r_X2_has s m args below meth c H locs 0 0 Q (F0 m 0 ls []) := by
  have hx := C.1.1
  have hb := C.1.2.1
  unfold f_X2_has at h
  refine lv_iload_n hx hb dX2_has_0 rfl (lv_at hl 1 rfl) ?_
  refine lv_if_lt (tgt := 16) hx hb dX2_has_1 (by decide) (fun c1 => ?_) (fun c1 => ?_)
  · have h := ip h c1
    exact w_X2_has_16 C hR Z (lv_sub hl [] rfl) h
  · have h := im h c1
    refine lv_iload_n hx hb dX2_has_4 rfl (lv_at hl 1 rfl) ?_
    refine lv_aload_n hx hb dX2_has_5 rfl (lv_at hl 0 rfl) ?_
    refine rg_X2_52 C Z dX2_has_6 ?_
    refine lv_icmp_ge (tgt := 16) hx hb dX2_has_9 (by decide) (fun c9 => ?_) (fun c9 => ?_)
    · have h := ip h c9
      exact w_X2_has_16 C hR Z (lv_sub hl [] rfl) h
    · have h := im h c9
      refine lv_iconst (v := 1) hx hb dX2_has_12 (by decide) ?_
      refine lv_goto (tgt := 17) hx hb dX2_has_13 (by decide) ?_
      subst h
      exact hR _ _ _ _ _ Z dX2_has_17 rfl
theorem k_X2_has {l : Launch} {kc : Nat → ClassId} {ad : Nat → Nat} {D : va_G} {adK adV : Nat → Nat} (x1 : Int32) (σ : St) : KC (eC adK adV) tC kc ad D l yX2_has (.code yX2_has cX2_has 2 (some .boolean)) r_X2_has [.ref (ad 4), .int x1] (some (.int (f_X2_has x1 σ))) σ σ := by
  refine g_enter (by decide) (Nat.le_of_ble_eq_true rfl) ?_
  intro p e s m args below meth c A hA C hr hlocks Z ls hl
  have hl : lv_has ls 2 [(0, .ref (ad 4)), (1, .int x1)] := hl
  exact w_X2_has_0 C (g_RTi C.1.1 C.1.2.1 hr hlocks hA)  Z hl rfl
def r_X2_isFull : Room := { frames := 0, cells := 0, slots := 0, locals := 0 }
set_option maxRecDepth 20000 in
theorem w_X2_isFull_0 {p : Program} {l : Launch} {e : Env} {s : State} {m : MethodId} {args : Array Value} {below : List Frame} {meth : Method} {c : Code} {Q : State → Prop} {D : va_G} {kc : Nat → ClassId} {ad : Nat → Nat} {A : Nat → Prop} {adK adV : Nat → Nat} (C : Cx (eC adK adV) p s m args c cX2_isFull 1 RX2 D kc A) {R : Int32} {σ : St} (hR : RTi 0 0 p l e r_X2_isFull s m args below meth c cX2_isFull tC kc ad D A Q .boolean R σ) {H : Heap} {locs : List Loc} {ls : Array Slot} (Z : Dy tC kc ad D A s.heap σ H locs) (hl : lv_has ls 1 [(0, .ref (ad 4))]) (h : f_X2_isFull σ = R) : W p l e r_X2_isFull s m args below meth c H locs 0 0 Q (F0 m 0 ls []) := by
  have hx := C.1.1
  have hb := C.1.2.1
  unfold f_X2_isFull at h
  refine lv_aload_n hx hb dX2_isFull_0 rfl (lv_at hl 0 rfl) ?_
  refine rg_X2_52 C Z dX2_isFull_1 ?_
  refine lv_bipush (v := 12) hx hb dX2_isFull_4 (by decide) ?_
  obtain ⟨v1, ev1, h⟩ := lb h
  have hj : W p l e r_X2_isFull s m args below meth c H locs 0 0 Q (F0 m 14 ls [.int v1]) := by
    subst h
    exact hR _ _ _ _ _ Z dX2_isFull_14 (nar_b _)
  refine lv_icmp_lt (tgt := 13) hx hb dX2_isFull_6 (by decide) (fun c6 => ?_) (fun c6 => ?_)
  · rw [if_pos c6] at ev1
    refine lv_iconst (v := 0) hx hb dX2_isFull_13 (by decide) ?_
    exact tn_i ev1 hj
  · rw [if_neg c6] at ev1
    refine lv_iconst (v := 1) hx hb dX2_isFull_9 (by decide) ?_
    refine lv_goto (tgt := 14) hx hb dX2_isFull_10 (by decide) ?_
    exact tn_i ev1 hj
theorem k_X2_isFull {l : Launch} {kc : Nat → ClassId} {ad : Nat → Nat} {D : va_G} {adK adV : Nat → Nat} (σ : St) : KC (eC adK adV) tC kc ad D l yX2_isFull (.code yX2_isFull cX2_isFull 1 (some .boolean)) r_X2_isFull [.ref (ad 4)] (some (.int (f_X2_isFull σ))) σ σ := by
  refine g_enter (by decide) (Nat.le_of_ble_eq_true rfl) ?_
  intro p e s m args below meth c A hA C hr hlocks Z ls hl
  have hl : lv_has ls 1 [(0, .ref (ad 4))] := hl
  exact w_X2_isFull_0 C (g_RTi C.1.1 C.1.2.1 hr hlocks hA)  Z hl rfl
def r_X2_isOf : Room := { frames := 1, cells := 0, slots := 0, locals := 21 }
set_option maxRecDepth 20000 in
theorem w_X2_isOf_22 {p : Program} {l : Launch} {e : Env} {s : State} {m : MethodId} {args : Array Value} {below : List Frame} {meth : Method} {c : Code} {Q : State → Prop} {D : va_G} {kc : Nat → ClassId} {ad : Nat → Nat} {A : Nat → Prop} {adK adV : Nat → Nat} (C : Cx (eC adK adV) p s m args c cX2_isOf 3 RX2 D kc A) {R : Int32} {σ : St} (hR : RTi 0 0 p l e r_X2_isOf s m args below meth c cX2_isOf tC kc ad D A Q .boolean R σ) {H : Heap} {locs : List Loc} {ls : Array Slot} (Z : Dy tC kc ad D A s.heap σ H locs) (hl : lv_has ls 3 []) (h : f_X2_isOf_22 σ = some R) : W p l e r_X2_isOf s m args below meth c H locs 0 0 Q (F0 m 22 ls []) := by
  have hx := C.1.1
  have hb := C.1.2.1
  unfold f_X2_isOf_22 at h
  refine lv_iconst (v := 0) hx hb dX2_isOf_22 (by decide) ?_
  obtain rfl := Option.some.inj h
  exact hR _ _ _ _ _ Z dX2_isOf_23 rfl
set_option maxRecDepth 20000 in
theorem w_X2_isOf_0 {p : Program} {l : Launch} {e : Env} {s : State} {m : MethodId} {args : Array Value} {below : List Frame} {meth : Method} {c : Code} {Q : State → Prop} {D : va_G} {kc : Nat → ClassId} {ad : Nat → Nat} {A : Nat → Prop} {adK adV : Nat → Nat} (C : Cx (eC adK adV) p s m args c cX2_isOf 3 RX2 D kc A) {R : Int32} {x1 : Int32} {x2 : Int32} {σ : St} (hR : RTi 0 0 p l e r_X2_isOf s m args below meth c cX2_isOf tC kc ad D A Q .boolean R σ) {H : Heap} {locs : List Loc} {ls : Array Slot} (Z : Dy tC kc ad D A s.heap σ H locs) (hl : lv_has ls 3 [(0, .ref (ad 4)), (1, .int x1), (2, .int x2)]) (h : f_X2_isOf x1 x2 σ = some R) : W p l e r_X2_isOf s m args below meth c H locs 0 0 Q (F0 m 0 ls []) := by
  have hx := C.1.1
  have hb := C.1.2.1
  unfold f_X2_isOf at h
  refine lv_aload_n hx hb dX2_isOf_0 rfl (lv_at hl 0 rfl) ?_
  refine lv_iload_n hx hb dX2_isOf_1 rfl (lv_at hl 1 rfl) ?_
  refine g_callVi (eC_ok adK adV) C Z (k_X2_has x1 σ) lk_X2_56 (by decide) rfl rfl hl (by decide) rfl (Nat.le_of_ble_eq_true rfl) (rest := []) rfl dX2_isOf_2 (fun H locs Z => ?_)
  refine lv_if_eq (tgt := 22) hx hb dX2_isOf_5 (by decide) (fun c5 => ?_) (fun c5 => ?_)
  · have h := ip h c5
    exact w_X2_isOf_22 C hR Z (lv_sub hl [] rfl) h
  · have h := im h c5
    refine lv_aload_n hx hb dX2_isOf_8 rfl (lv_at hl 0 rfl) ?_
    refine rg_X2_11 C Z dX2_isOf_9 ?_
    refine lv_iload_n hx hb dX2_isOf_12 rfl (lv_at hl 1 rfl) ?_
    obtain ⟨v3, hv3, h⟩ := ob h
    refine g_iald C Z iaC32 hv3 dX2_isOf_13 ?_
    refine lv_iload_n hx hb dX2_isOf_14 rfl (lv_at hl 2 rfl) ?_
    refine lv_icmp_ne (tgt := 22) hx hb dX2_isOf_15 (by decide) (fun c15 => ?_) (fun c15 => ?_)
    · have h := im h c15
      exact w_X2_isOf_22 C hR Z (lv_sub hl [] rfl) h
    · have h := ip h c15
      refine lv_iconst (v := 1) hx hb dX2_isOf_18 (by decide) ?_
      refine lv_goto (tgt := 23) hx hb dX2_isOf_19 (by decide) ?_
      obtain rfl := Option.some.inj h
      exact hR _ _ _ _ _ Z dX2_isOf_23 rfl
theorem k_X2_isOf {l : Launch} {kc : Nat → ClassId} {ad : Nat → Nat} {D : va_G} {adK adV : Nat → Nat} {x1 : Int32} {x2 : Int32} {σ : St} {R : Int32} (h : f_X2_isOf x1 x2 σ = some R) : KC (eC adK adV) tC kc ad D l yX2_isOf (.code yX2_isOf cX2_isOf 3 (some .boolean)) r_X2_isOf [.ref (ad 4), .int x1, .int x2] (some (.int R)) σ σ := by
  refine g_enter (by decide) (Nat.le_of_ble_eq_true rfl) ?_
  intro p e s m args below meth c A hA C hr hlocks Z ls hl
  have hl : lv_has ls 3 [(0, .ref (ad 4)), (1, .int x1), (2, .int x2)] := hl
  exact w_X2_isOf_0 C (g_RTi C.1.1 C.1.2.1 hr hlocks hA)  Z hl h
def r_X2_clausesRead : Room := { frames := 0, cells := 0, slots := 0, locals := 0 }
set_option maxRecDepth 20000 in
theorem w_X2_clausesRead_0 {p : Program} {l : Launch} {e : Env} {s : State} {m : MethodId} {args : Array Value} {below : List Frame} {meth : Method} {c : Code} {Q : State → Prop} {D : va_G} {kc : Nat → ClassId} {ad : Nat → Nat} {A : Nat → Prop} {adK adV : Nat → Nat} (C : Cx (eC adK adV) p s m args c cX2_clausesRead 1 RX2 D kc A) {R : Int32} {σ : St} (hR : RTi 0 0 p l e r_X2_clausesRead s m args below meth c cX2_clausesRead tC kc ad D A Q .int R σ) {H : Heap} {locs : List Loc} {ls : Array Slot} (Z : Dy tC kc ad D A s.heap σ H locs) (hl : lv_has ls 1 [(0, .ref (ad 4))]) (h : f_X2_clausesRead σ = some R) : W p l e r_X2_clausesRead s m args below meth c H locs 0 0 Q (F0 m 0 ls []) := by
  have hx := C.1.1
  have hb := C.1.2.1
  unfold f_X2_clausesRead at h
  refine lv_aload_n hx hb dX2_clausesRead_0 rfl (lv_at hl 0 rfl) ?_
  refine rg_X2_52 C Z dX2_clausesRead_1 ?_
  refine lv_bipush (v := 12) hx hb dX2_clausesRead_4 (by decide) ?_
  refine lv_icmp_ge (tgt := 21) hx hb dX2_clausesRead_6 (by decide) (fun c6 => ?_) (fun c6 => ?_)
  · have h := ip h c6
    refine lv_bipush (v := 12) hx hb dX2_clausesRead_21 (by decide) ?_
    obtain rfl := Option.some.inj h
    exact hR _ _ _ _ _ Z dX2_clausesRead_23 rfl
  · have h := im h c6
    refine lv_aload_n hx hb dX2_clausesRead_9 rfl (lv_at hl 0 rfl) ?_
    refine rg_X2_24 C Z dX2_clausesRead_10 ?_
    refine lv_aload_n hx hb dX2_clausesRead_13 rfl (lv_at hl 0 rfl) ?_
    refine rg_X2_52 C Z dX2_clausesRead_14 ?_
    obtain ⟨v3, hv3, h⟩ := ob h
    refine g_iald C Z iaC36 hv3 dX2_clausesRead_17 ?_
    refine lv_goto (tgt := 23) hx hb dX2_clausesRead_18 (by decide) ?_
    obtain rfl := Option.some.inj h
    exact hR _ _ _ _ _ Z dX2_clausesRead_23 rfl
theorem k_X2_clausesRead {l : Launch} {kc : Nat → ClassId} {ad : Nat → Nat} {D : va_G} {adK adV : Nat → Nat} {σ : St} {R : Int32} (h : f_X2_clausesRead σ = some R) : KC (eC adK adV) tC kc ad D l yX2_clausesRead (.code yX2_clausesRead cX2_clausesRead 1 (some .int)) r_X2_clausesRead [.ref (ad 4)] (some (.int R)) σ σ := by
  refine g_enter (by decide) (Nat.le_of_ble_eq_true rfl) ?_
  intro p e s m args below meth c A hA C hr hlocks Z ls hl
  have hl : lv_has ls 1 [(0, .ref (ad 4))] := hl
  exact w_X2_clausesRead_0 C (g_RTi C.1.1 C.1.2.1 hr hlocks hA)  Z hl h
def r_X2_clauseBeingRead : Room := { frames := 1, cells := 0, slots := 0, locals := 20 }
set_option maxRecDepth 20000 in
theorem w_X2_clauseBeingRead_0 {p : Program} {l : Launch} {e : Env} {s : State} {m : MethodId} {args : Array Value} {below : List Frame} {meth : Method} {c : Code} {Q : State → Prop} {D : va_G} {kc : Nat → ClassId} {ad : Nat → Nat} {A : Nat → Prop} {adK adV : Nat → Nat} (C : Cx (eC adK adV) p s m args c cX2_clauseBeingRead 1 RX2 D kc A) {R : Int32} {σ : St} (hR : RTi 0 0 p l e r_X2_clauseBeingRead s m args below meth c cX2_clauseBeingRead tC kc ad D A Q .int R σ) {H : Heap} {locs : List Loc} {ls : Array Slot} (Z : Dy tC kc ad D A s.heap σ H locs) (hl : lv_has ls 1 [(0, .ref (ad 4))]) (h : f_X2_clauseBeingRead σ = some R) : W p l e r_X2_clauseBeingRead s m args below meth c H locs 0 0 Q (F0 m 0 ls []) := by
  have hx := C.1.1
  have hb := C.1.2.1
  unfold f_X2_clauseBeingRead at h
  refine lv_aload_n hx hb dX2_clauseBeingRead_0 rfl (lv_at hl 0 rfl) ?_
  refine rg_X2_52 C Z dX2_clauseBeingRead_1 ?_
  refine lv_bipush (v := 12) hx hb dX2_clauseBeingRead_4 (by decide) ?_
  refine lv_imul hx hb dX2_clauseBeingRead_6 ?_
  refine lv_aload_n hx hb dX2_clauseBeingRead_7 rfl (lv_at hl 0 rfl) ?_
  obtain ⟨v2, hv2, h⟩ := ob h
  refine g_callVi (eC_ok adK adV) C Z (k_X2_clausesRead hv2) lk_X2_78 (by decide) rfl rfl hl (by decide) rfl (Nat.le_of_ble_eq_true rfl) (rest := [.int ((gF σ 400) * 12)]) rfl dX2_clauseBeingRead_8 (fun H locs Z => ?_)
  refine lv_iadd hx hb dX2_clauseBeingRead_11 ?_
  obtain rfl := Option.some.inj h
  exact hR _ _ _ _ _ Z dX2_clauseBeingRead_12 rfl
theorem k_X2_clauseBeingRead {l : Launch} {kc : Nat → ClassId} {ad : Nat → Nat} {D : va_G} {adK adV : Nat → Nat} {σ : St} {R : Int32} (h : f_X2_clauseBeingRead σ = some R) : KC (eC adK adV) tC kc ad D l yX2_clauseBeingRead (.code yX2_clauseBeingRead cX2_clauseBeingRead 1 (some .int)) r_X2_clauseBeingRead [.ref (ad 4)] (some (.int R)) σ σ := by
  refine g_enter (by decide) (Nat.le_of_ble_eq_true rfl) ?_
  intro p e s m args below meth c A hA C hr hlocks Z ls hl
  have hl : lv_has ls 1 [(0, .ref (ad 4))] := hl
  exact w_X2_clauseBeingRead_0 C (g_RTi C.1.1 C.1.2.1 hr hlocks hA)  Z hl h
def r_X2_beginClause : Room := { frames := 2, cells := 0, slots := 0, locals := 40 }
set_option maxRecDepth 20000 in
theorem w_X2_beginClause_0 {p : Program} {l : Launch} {e : Env} {s : State} {m : MethodId} {args : Array Value} {below : List Frame} {meth : Method} {c : Code} {Q : State → Prop} {D : va_G} {kc : Nat → ClassId} {ad : Nat → Nat} {A : Nat → Prop} {adK adV : Nat → Nat} (C : Cx (eC adK adV) p s m args c cX2_beginClause 4 RX2 D kc A) {R : St} {x1 : Int32} {x2 : Int32} {σ : St} (hR : RTv 0 0 p l e r_X2_beginClause s m args below meth c cX2_beginClause tC kc ad D A Q R) {H : Heap} {locs : List Loc} {ls : Array Slot} (Z : Dy tC kc ad D A s.heap σ H locs) (hl : lv_has ls 4 [(0, .ref (ad 4)), (1, .int x1), (2, .int x2)]) (h : f_X2_beginClause x1 x2 σ = some R) : W p l e r_X2_beginClause s m args below meth c H locs 0 0 Q (F0 m 0 ls []) := by
  have hx := C.1.1
  have hb := C.1.2.1
  unfold f_X2_beginClause at h
  refine lv_aload_n hx hb dX2_beginClause_0 rfl (lv_at hl 0 rfl) ?_
  obtain ⟨v13, hv13, h⟩ := ob h
  refine g_callVi (eC_ok adK adV) C Z (k_X2_clausesRead hv13) lk_X2_78 (by decide) rfl rfl hl (by decide) rfl (Nat.le_of_ble_eq_true rfl) (rest := []) rfl dX2_beginClause_1 (fun H locs Z => ?_)
  refine lv_bipush (v := 12) hx hb dX2_beginClause_4 (by decide) ?_
  refine lv_icmp_ge (tgt := 45) hx hb dX2_beginClause_6 (by decide) (fun c6 => ?_) (fun c6 => ?_)
  · have h := ip h c6
    obtain rfl := Option.some.inj h
    exact hR _ _ _ _ Z dX2_beginClause_45
  · have h := im h c6
    refine lv_aload_n hx hb dX2_beginClause_9 rfl (lv_at hl 0 rfl) ?_
    obtain ⟨v14, hv14, h⟩ := ob h
    refine g_callVi (eC_ok adK adV) C Z (k_X2_clauseBeingRead hv14) lk_X2_82 (by decide) rfl rfl hl (by decide) rfl (Nat.le_of_ble_eq_true rfl) (rest := []) rfl dX2_beginClause_10 (fun H locs Z => ?_)
    refine lv_istore_n (lv' := [(3, .int v14), (0, .ref (ad 4)), (1, .int x1), (2, .int x2)]) hx hb dX2_beginClause_13 rfl hl (by decide) rfl (fun ls hl => ?_)
    refine lv_aload_n hx hb dX2_beginClause_14 rfl (lv_at hl 1 rfl) ?_
    refine rg_X2_30 C Z dX2_beginClause_15 ?_
    refine lv_iload_n hx hb dX2_beginClause_18 rfl (lv_at hl 0 rfl) ?_
    refine lv_iload_n hx hb dX2_beginClause_19 rfl (lv_at hl 2 rfl) ?_
    obtain ⟨σ15, hσ15, h⟩ := ob h
    refine g_iast C Z iaC38 hσ15 dX2_beginClause_20 (fun H locs Z => ?_)
    refine lv_aload_n hx hb dX2_beginClause_21 rfl (lv_at hl 1 rfl) ?_
    refine rg_X2_33 C Z dX2_beginClause_22 ?_
    refine lv_iload_n hx hb dX2_beginClause_25 rfl (lv_at hl 0 rfl) ?_
    refine lv_iload_n hx hb dX2_beginClause_26 rfl (lv_at hl 3 rfl) ?_
    obtain ⟨σ16, hσ16, h⟩ := ob h
    refine g_iast C Z iaC39 hσ16 dX2_beginClause_27 (fun H locs Z => ?_)
    refine lv_aload_n hx hb dX2_beginClause_28 rfl (lv_at hl 1 rfl) ?_
    refine rg_X2_36 C Z dX2_beginClause_29 ?_
    refine lv_iload_n hx hb dX2_beginClause_32 rfl (lv_at hl 0 rfl) ?_
    refine lv_iconst (v := 0) hx hb dX2_beginClause_33 (by decide) ?_
    obtain ⟨σ17, hσ17, h⟩ := ob h
    refine g_iast C Z iaC40 hσ17 dX2_beginClause_34 (fun H locs Z => ?_)
    refine lv_aload_n hx hb dX2_beginClause_35 rfl (lv_at hl 1 rfl) ?_
    refine rg_X2_39 C Z dX2_beginClause_36 ?_
    refine lv_iload_n hx hb dX2_beginClause_39 rfl (lv_at hl 0 rfl) ?_
    refine lv_aload_n hx hb dX2_beginClause_40 rfl (lv_at hl 1 rfl) ?_
    refine rg_X2_63 C Z dX2_beginClause_41 ?_
    obtain ⟨σ18, hσ18, h⟩ := ob h
    refine g_iast C Z iaC41 hσ18 dX2_beginClause_44 (fun H locs Z => ?_)
    obtain rfl := Option.some.inj h
    exact hR _ _ _ _ Z dX2_beginClause_45
theorem k_X2_beginClause {l : Launch} {kc : Nat → ClassId} {ad : Nat → Nat} {D : va_G} {adK adV : Nat → Nat} {x1 : Int32} {x2 : Int32} {σ : St} {R : St} (h : f_X2_beginClause x1 x2 σ = some R) : KC (eC adK adV) tC kc ad D l yX2_beginClause (.code yX2_beginClause cX2_beginClause 4 none) r_X2_beginClause [.ref (ad 4), .int x1, .int x2] none σ R := by
  refine g_enter (by decide) (Nat.le_of_ble_eq_true rfl) ?_
  intro p e s m args below meth c A hA C hr hlocks Z ls hl
  have hl : lv_has ls 4 [(0, .ref (ad 4)), (1, .int x1), (2, .int x2)] := hl
  exact w_X2_beginClause_0 C (g_RTv C.1.1 C.1.2.1 hr hlocks hA)  Z hl h
def r_X2_beginCond : Room := { frames := 2, cells := 0, slots := 0, locals := 40 }
set_option maxRecDepth 20000 in
theorem w_X2_beginCond_0 {p : Program} {l : Launch} {e : Env} {s : State} {m : MethodId} {args : Array Value} {below : List Frame} {meth : Method} {c : Code} {Q : State → Prop} {D : va_G} {kc : Nat → ClassId} {ad : Nat → Nat} {A : Nat → Prop} {adK adV : Nat → Nat} (C : Cx (eC adK adV) p s m args c cX2_beginCond 1 RX2 D kc A) {R : St} {σ : St} (hR : RTv 0 0 p l e r_X2_beginCond s m args below meth c cX2_beginCond tC kc ad D A Q R) {H : Heap} {locs : List Loc} {ls : Array Slot} (Z : Dy tC kc ad D A s.heap σ H locs) (hl : lv_has ls 1 [(0, .ref (ad 4))]) (h : f_X2_beginCond σ = some R) : W p l e r_X2_beginCond s m args below meth c H locs 0 0 Q (F0 m 0 ls []) := by
  have hx := C.1.1
  have hb := C.1.2.1
  unfold f_X2_beginCond at h
  refine lv_aload_n hx hb dX2_beginCond_0 rfl (lv_at hl 0 rfl) ?_
  obtain ⟨v7, hv7, h⟩ := ob h
  refine g_callVi (eC_ok adK adV) C Z (k_X2_clausesRead hv7) lk_X2_78 (by decide) rfl rfl hl (by decide) rfl (Nat.le_of_ble_eq_true rfl) (rest := []) rfl dX2_beginCond_1 (fun H locs Z => ?_)
  refine lv_bipush (v := 12) hx hb dX2_beginCond_4 (by decide) ?_
  refine lv_icmp_ge (tgt := 22) hx hb dX2_beginCond_6 (by decide) (fun c6 => ?_) (fun c6 => ?_)
  · have h := ip h c6
    obtain rfl := Option.some.inj h
    exact hR _ _ _ _ Z dX2_beginCond_22
  · have h := im h c6
    refine lv_aload_n hx hb dX2_beginCond_9 rfl (lv_at hl 0 rfl) ?_
    refine rg_X2_42 C Z dX2_beginCond_10 ?_
    refine lv_aload_n hx hb dX2_beginCond_13 rfl (lv_at hl 0 rfl) ?_
    obtain ⟨v8, hv8, h⟩ := ob h
    refine g_callVi (eC_ok adK adV) C Z (k_X2_clauseBeingRead hv8) lk_X2_82 (by decide) rfl rfl hl (by decide) rfl (Nat.le_of_ble_eq_true rfl) (rest := [.ref (ad 42)]) rfl dX2_beginCond_14 (fun H locs Z => ?_)
    refine lv_aload_n hx hb dX2_beginCond_17 rfl (lv_at hl 0 rfl) ?_
    refine rg_X2_63 C Z dX2_beginCond_18 ?_
    obtain ⟨σ9, hσ9, h⟩ := ob h
    refine g_iast C Z iaC42 hσ9 dX2_beginCond_21 (fun H locs Z => ?_)
    obtain rfl := Option.some.inj h
    exact hR _ _ _ _ Z dX2_beginCond_22
theorem k_X2_beginCond {l : Launch} {kc : Nat → ClassId} {ad : Nat → Nat} {D : va_G} {adK adV : Nat → Nat} {σ : St} {R : St} (h : f_X2_beginCond σ = some R) : KC (eC adK adV) tC kc ad D l yX2_beginCond (.code yX2_beginCond cX2_beginCond 1 none) r_X2_beginCond [.ref (ad 4)] none σ R := by
  refine g_enter (by decide) (Nat.le_of_ble_eq_true rfl) ?_
  intro p e s m args below meth c A hA C hr hlocks Z ls hl
  have hl : lv_has ls 1 [(0, .ref (ad 4))] := hl
  exact w_X2_beginCond_0 C (g_RTv C.1.1 C.1.2.1 hr hlocks hA)  Z hl h
def r_X2_setCond : Room := { frames := 2, cells := 0, slots := 0, locals := 40 }
set_option maxRecDepth 20000 in
theorem w_X2_setCond_0 {p : Program} {l : Launch} {e : Env} {s : State} {m : MethodId} {args : Array Value} {below : List Frame} {meth : Method} {c : Code} {Q : State → Prop} {D : va_G} {kc : Nat → ClassId} {ad : Nat → Nat} {A : Nat → Prop} {adK adV : Nat → Nat} (C : Cx (eC adK adV) p s m args c cX2_setCond 2 RX2 D kc A) {R : St} {x1 : Int32} {σ : St} (hR : RTv 0 0 p l e r_X2_setCond s m args below meth c cX2_setCond tC kc ad D A Q R) {H : Heap} {locs : List Loc} {ls : Array Slot} (Z : Dy tC kc ad D A s.heap σ H locs) (hl : lv_has ls 2 [(0, .ref (ad 4)), (1, .int x1)]) (h : f_X2_setCond x1 σ = some R) : W p l e r_X2_setCond s m args below meth c H locs 0 0 Q (F0 m 0 ls []) := by
  have hx := C.1.1
  have hb := C.1.2.1
  unfold f_X2_setCond at h
  refine lv_aload_n hx hb dX2_setCond_0 rfl (lv_at hl 0 rfl) ?_
  obtain ⟨v7, hv7, h⟩ := ob h
  refine g_callVi (eC_ok adK adV) C Z (k_X2_clausesRead hv7) lk_X2_78 (by decide) rfl rfl hl (by decide) rfl (Nat.le_of_ble_eq_true rfl) (rest := []) rfl dX2_setCond_1 (fun H locs Z => ?_)
  refine lv_bipush (v := 12) hx hb dX2_setCond_4 (by decide) ?_
  refine lv_icmp_ge (tgt := 19) hx hb dX2_setCond_6 (by decide) (fun c6 => ?_) (fun c6 => ?_)
  · have h := ip h c6
    obtain rfl := Option.some.inj h
    exact hR _ _ _ _ Z dX2_setCond_19
  · have h := im h c6
    refine lv_aload_n hx hb dX2_setCond_9 rfl (lv_at hl 0 rfl) ?_
    refine rg_X2_36 C Z dX2_setCond_10 ?_
    refine lv_aload_n hx hb dX2_setCond_13 rfl (lv_at hl 0 rfl) ?_
    obtain ⟨v8, hv8, h⟩ := ob h
    refine g_callVi (eC_ok adK adV) C Z (k_X2_clauseBeingRead hv8) lk_X2_82 (by decide) rfl rfl hl (by decide) rfl (Nat.le_of_ble_eq_true rfl) (rest := [.ref (ad 40)]) rfl dX2_setCond_14 (fun H locs Z => ?_)
    refine lv_iload_n hx hb dX2_setCond_17 rfl (lv_at hl 1 rfl) ?_
    obtain ⟨σ9, hσ9, h⟩ := ob h
    refine g_iast C Z iaC40 hσ9 dX2_setCond_18 (fun H locs Z => ?_)
    obtain rfl := Option.some.inj h
    exact hR _ _ _ _ Z dX2_setCond_19
theorem k_X2_setCond {l : Launch} {kc : Nat → ClassId} {ad : Nat → Nat} {D : va_G} {adK adV : Nat → Nat} {x1 : Int32} {σ : St} {R : St} (h : f_X2_setCond x1 σ = some R) : KC (eC adK adV) tC kc ad D l yX2_setCond (.code yX2_setCond cX2_setCond 2 none) r_X2_setCond [.ref (ad 4), .int x1] none σ R := by
  refine g_enter (by decide) (Nat.le_of_ble_eq_true rfl) ?_
  intro p e s m args below meth c A hA C hr hlocks Z ls hl
  have hl : lv_has ls 2 [(0, .ref (ad 4)), (1, .int x1)] := hl
  exact w_X2_setCond_0 C (g_RTv C.1.1 C.1.2.1 hr hlocks hA)  Z hl h
def r_X2_endClause : Room := { frames := 2, cells := 0, slots := 0, locals := 40 }
set_option maxRecDepth 20000 in
theorem w_X2_endClause_0 {p : Program} {l : Launch} {e : Env} {s : State} {m : MethodId} {args : Array Value} {below : List Frame} {meth : Method} {c : Code} {Q : State → Prop} {D : va_G} {kc : Nat → ClassId} {ad : Nat → Nat} {A : Nat → Prop} {adK adV : Nat → Nat} (C : Cx (eC adK adV) p s m args c cX2_endClause 1 RX2 D kc A) {R : St} {σ : St} (hR : RTv 0 0 p l e r_X2_endClause s m args below meth c cX2_endClause tC kc ad D A Q R) {H : Heap} {locs : List Loc} {ls : Array Slot} (Z : Dy tC kc ad D A s.heap σ H locs) (hl : lv_has ls 1 [(0, .ref (ad 4))]) (h : f_X2_endClause σ = some R) : W p l e r_X2_endClause s m args below meth c H locs 0 0 Q (F0 m 0 ls []) := by
  have hx := C.1.1
  have hb := C.1.2.1
  unfold f_X2_endClause at h
  refine lv_aload_n hx hb dX2_endClause_0 rfl (lv_at hl 0 rfl) ?_
  obtain ⟨v13, hv13, h⟩ := ob h
  refine g_callVi (eC_ok adK adV) C Z (k_X2_clausesRead hv13) lk_X2_78 (by decide) rfl rfl hl (by decide) rfl (Nat.le_of_ble_eq_true rfl) (rest := []) rfl dX2_endClause_1 (fun H locs Z => ?_)
  refine lv_bipush (v := 12) hx hb dX2_endClause_4 (by decide) ?_
  refine lv_icmp_ge (tgt := 35) hx hb dX2_endClause_6 (by decide) (fun c6 => ?_) (fun c6 => ?_)
  · have h := ip h c6
    obtain rfl := Option.some.inj h
    exact hR _ _ _ _ Z dX2_endClause_35
  · have h := im h c6
    refine lv_aload_n hx hb dX2_endClause_9 rfl (lv_at hl 0 rfl) ?_
    refine rg_X2_45 C Z dX2_endClause_10 ?_
    refine lv_aload_n hx hb dX2_endClause_13 rfl (lv_at hl 0 rfl) ?_
    obtain ⟨v14, hv14, h⟩ := ob h
    refine g_callVi (eC_ok adK adV) C Z (k_X2_clauseBeingRead hv14) lk_X2_82 (by decide) rfl rfl hl (by decide) rfl (Nat.le_of_ble_eq_true rfl) (rest := [.ref (ad 43)]) rfl dX2_endClause_14 (fun H locs Z => ?_)
    refine lv_aload_n hx hb dX2_endClause_17 rfl (lv_at hl 0 rfl) ?_
    refine rg_X2_63 C Z dX2_endClause_18 ?_
    obtain ⟨σ15, hσ15, h⟩ := ob h
    refine g_iast C Z iaC43 hσ15 dX2_endClause_21 (fun H locs Z => ?_)
    refine lv_aload_n hx hb dX2_endClause_22 rfl (lv_at hl 0 rfl) ?_
    refine rg_X2_24 C Z dX2_endClause_23 ?_
    refine lv_aload_n hx hb dX2_endClause_26 rfl (lv_at hl 0 rfl) ?_
    refine rg_X2_52 C Z dX2_endClause_27 ?_
    obtain ⟨v16, ev16, h⟩ := lb h
    refine tn_i ev16 ?_
    refine lv_dup2_11 hx hb dX2_endClause_30 rfl rfl ?_
    obtain ⟨v17, hv17, h⟩ := ob h
    refine g_iald C Z iaC36 hv17 dX2_endClause_31 ?_
    refine lv_iconst (v := 1) hx hb dX2_endClause_32 (by decide) ?_
    refine lv_iadd hx hb dX2_endClause_33 ?_
    obtain ⟨σ18, hσ18, h⟩ := ob h
    refine g_iast C Z iaC36 hσ18 dX2_endClause_34 (fun H locs Z => ?_)
    obtain rfl := Option.some.inj h
    exact hR _ _ _ _ Z dX2_endClause_35
theorem k_X2_endClause {l : Launch} {kc : Nat → ClassId} {ad : Nat → Nat} {D : va_G} {adK adV : Nat → Nat} {σ : St} {R : St} (h : f_X2_endClause σ = some R) : KC (eC adK adV) tC kc ad D l yX2_endClause (.code yX2_endClause cX2_endClause 1 none) r_X2_endClause [.ref (ad 4)] none σ R := by
  refine g_enter (by decide) (Nat.le_of_ble_eq_true rfl) ?_
  intro p e s m args below meth c A hA C hr hlocks Z ls hl
  have hl : lv_has ls 1 [(0, .ref (ad 4))] := hl
  exact w_X2_endClause_0 C (g_RTv C.1.1 C.1.2.1 hr hlocks hA)  Z hl h
def r_X2_emit : Room := { frames := 0, cells := 0, slots := 0, locals := 0 }
set_option maxRecDepth 20000 in
theorem w_X2_emit_0 {p : Program} {l : Launch} {e : Env} {s : State} {m : MethodId} {args : Array Value} {below : List Frame} {meth : Method} {c : Code} {Q : State → Prop} {D : va_G} {kc : Nat → ClassId} {ad : Nat → Nat} {A : Nat → Prop} {adK adV : Nat → Nat} (C : Cx (eC adK adV) p s m args c cX2_emit 2 RX2 D kc A) {R : St} {x1 : Int32} {σ : St} (hR : RTv 0 0 p l e r_X2_emit s m args below meth c cX2_emit tC kc ad D A Q R) {H : Heap} {locs : List Loc} {ls : Array Slot} (Z : Dy tC kc ad D A s.heap σ H locs) (hl : lv_has ls 2 [(0, .ref (ad 4)), (1, .int x1)]) (h : f_X2_emit x1 σ = some R) : W p l e r_X2_emit s m args below meth c H locs 0 0 Q (F0 m 0 ls []) := by
  have hx := C.1.1
  have hb := C.1.2.1
  unfold f_X2_emit at h
  refine lv_aload_n hx hb dX2_emit_0 rfl (lv_at hl 0 rfl) ?_
  refine rg_X2_63 C Z dX2_emit_1 ?_
  refine lv_aload_n hx hb dX2_emit_4 rfl (lv_at hl 0 rfl) ?_
  refine rg_X2_27 C Z dX2_emit_5 ?_
  refine g_len C Z iaC37 (by decide) (v := lenI tC σ 37) rfl dX2_emit_8 ?_
  refine lv_icmp_ge (tgt := 32) hx hb dX2_emit_9 (by decide) (fun c9 => ?_) (fun c9 => ?_)
  · have h := ip h c9
    obtain rfl := Option.some.inj h
    exact hR _ _ _ _ Z dX2_emit_32
  · have h := im h c9
    refine lv_aload_n hx hb dX2_emit_12 rfl (lv_at hl 0 rfl) ?_
    refine rg_X2_27 C Z dX2_emit_13 ?_
    refine lv_aload_n hx hb dX2_emit_16 rfl (lv_at hl 0 rfl) ?_
    refine rg_X2_63 C Z dX2_emit_17 ?_
    refine lv_iload_n hx hb dX2_emit_20 rfl (lv_at hl 1 rfl) ?_
    obtain ⟨σ5, hσ5, h⟩ := ob h
    refine g_iast C Z iaC37 hσ5 dX2_emit_21 (fun H locs Z => ?_)
    refine lv_aload_n hx hb dX2_emit_22 rfl (lv_at hl 0 rfl) ?_
    refine lv_dup hx hb dX2_emit_23 rfl ?_
    refine rg_X2_63 C Z dX2_emit_24 ?_
    refine lv_iconst (v := 1) hx hb dX2_emit_27 (by decide) ?_
    refine lv_iadd hx hb dX2_emit_28 ?_
    obtain ⟨σ6, eσ6, h⟩ := lb h
    refine rp_X2_63 C Z eσ6 dX2_emit_29 (fun H locs Z => ?_)
    obtain rfl := Option.some.inj h
    exact hR _ _ _ _ Z dX2_emit_32
theorem k_X2_emit {l : Launch} {kc : Nat → ClassId} {ad : Nat → Nat} {D : va_G} {adK adV : Nat → Nat} {x1 : Int32} {σ : St} {R : St} (h : f_X2_emit x1 σ = some R) : KC (eC adK adV) tC kc ad D l yX2_emit (.code yX2_emit cX2_emit 2 none) r_X2_emit [.ref (ad 4), .int x1] none σ R := by
  refine g_enter (by decide) (Nat.le_of_ble_eq_true rfl) ?_
  intro p e s m args below meth c A hA C hr hlocks Z ls hl
  have hl : lv_has ls 2 [(0, .ref (ad 4)), (1, .int x1)] := hl
  exact w_X2_emit_0 C (g_RTv C.1.1 C.1.2.1 hr hlocks hA)  Z hl h
def r_X2_minuteAt : Room := { frames := 1, cells := 0, slots := 0, locals := 22 }
set_option maxRecDepth 20000 in
theorem w_X2_minuteAt_0 {p : Program} {l : Launch} {e : Env} {s : State} {m : MethodId} {args : Array Value} {below : List Frame} {meth : Method} {c : Code} {Q : State → Prop} {D : va_G} {kc : Nat → ClassId} {ad : Nat → Nat} {A : Nat → Prop} {adK adV : Nat → Nat} (C : Cx (eC adK adV) p s m args c cX2_minuteAt 3 RX2 D kc A) {R : Int32} {x1 : Int32} {σ : St} (hR : RTi 0 0 p l e r_X2_minuteAt s m args below meth c cX2_minuteAt tC kc ad D A Q .int R σ) {H : Heap} {locs : List Loc} {ls : Array Slot} (Z : Dy tC kc ad D A s.heap σ H locs) (hl : lv_has ls 3 [(0, .ref (ad 4)), (1, .int x1)]) (h : f_X2_minuteAt x1 σ = some R) : W p l e r_X2_minuteAt s m args below meth c H locs 0 0 Q (F0 m 0 ls []) := by
  have hx := C.1.1
  have hb := C.1.2.1
  unfold f_X2_minuteAt at h
  refine lv_aload_n hx hb dX2_minuteAt_0 rfl (lv_at hl 0 rfl) ?_
  refine rg_X2_21 C Z dX2_minuteAt_1 ?_
  refine lv_iload_n hx hb dX2_minuteAt_4 rfl (lv_at hl 1 rfl) ?_
  obtain ⟨v5, hv5, h⟩ := ob h
  refine g_iald C Z iaC35 hv5 dX2_minuteAt_5 ?_
  refine lv_istore_n (lv' := [(2, .int v5), (0, .ref (ad 4)), (1, .int x1)]) hx hb dX2_minuteAt_6 rfl hl (by decide) rfl (fun ls hl => ?_)
  refine lv_iload_n hx hb dX2_minuteAt_7 rfl (lv_at hl 0 rfl) ?_
  refine lv_iconst (v := 0) hx hb dX2_minuteAt_8 (by decide) ?_
  refine lv_bipush (v := 11) hx hb dX2_minuteAt_9 (by decide) ?_
  refine g_callNi (eC_ok adK adV) C Z (k_X10_lies v5 0 11 σ) (C.2.2.2.1 _ nw_X2_96) lkn_X10_lies hl (by decide) rfl (Nat.le_of_ble_eq_true rfl) (rest := []) rfl dX2_minuteAt_11 (fun H locs Z => ?_)
  refine lv_if_eq (tgt := 26) hx hb dX2_minuteAt_14 (by decide) (fun c14 => ?_) (fun c14 => ?_)
  · have h := ip h c14
    refine lv_iconst (v := 0) hx hb dX2_minuteAt_26 (by decide) ?_
    obtain rfl := Option.some.inj h
    exact hR _ _ _ _ _ Z dX2_minuteAt_27 rfl
  · have h := im h c14
    refine lv_aload_n hx hb dX2_minuteAt_17 rfl (lv_at hl 1 rfl) ?_
    refine rg_X2_15 C Z dX2_minuteAt_18 ?_
    refine lv_iload_n hx hb dX2_minuteAt_21 rfl (lv_at hl 0 rfl) ?_
    obtain ⟨v6, hv6, h⟩ := ob h
    refine g_iald C Z iaC33 hv6 dX2_minuteAt_22 ?_
    refine lv_goto (tgt := 27) hx hb dX2_minuteAt_23 (by decide) ?_
    obtain rfl := Option.some.inj h
    exact hR _ _ _ _ _ Z dX2_minuteAt_27 rfl
theorem k_X2_minuteAt {l : Launch} {kc : Nat → ClassId} {ad : Nat → Nat} {D : va_G} {adK adV : Nat → Nat} {x1 : Int32} {σ : St} {R : Int32} (h : f_X2_minuteAt x1 σ = some R) : KC (eC adK adV) tC kc ad D l yX2_minuteAt (.code yX2_minuteAt cX2_minuteAt 3 (some .int)) r_X2_minuteAt [.ref (ad 4), .int x1] (some (.int R)) σ σ := by
  refine g_enter (by decide) (Nat.le_of_ble_eq_true rfl) ?_
  intro p e s m args below meth c A hA C hr hlocks Z ls hl
  have hl : lv_has ls 3 [(0, .ref (ad 4)), (1, .int x1)] := hl
  exact w_X2_minuteAt_0 C (g_RTi C.1.1 C.1.2.1 hr hlocks hA)  Z hl h
def r_X2_putInOrder : Room := { frames := 2, cells := 0, slots := 0, locals := 44 }
set_option maxRecDepth 20000 in
theorem w_X2_putInOrder_40 {p : Program} {l : Launch} {e : Env} {s : State} {m : MethodId} {args : Array Value} {below : List Frame} {meth : Method} {c : Code} {Q : State → Prop} {D : va_G} {kc : Nat → ClassId} {ad : Nat → Nat} {A : Nat → Prop} {adK adV : Nat → Nat} (C : Cx (eC adK adV) p s m args c cX2_putInOrder 3 RX2 D kc A) {R : St} {x2 : Int32} {σ : St} (hR : RTv 0 0 p l e r_X2_putInOrder s m args below meth c cX2_putInOrder tC kc ad D A Q R) {H : Heap} {locs : List Loc} {ls : Array Slot} (Z : Dy tC kc ad D A s.heap σ H locs) (hl : lv_has ls 3 [(0, .ref (ad 4)), (2, .int x2)]) (h : f_X2_putInOrder_40 x2 σ = some R) : W p l e r_X2_putInOrder s m args below meth c H locs 0 0 Q (F0 m 40 ls []) := by
  have hx := C.1.1
  have hb := C.1.2.1
  unfold f_X2_putInOrder_40 at h
  refine lv_aload_n hx hb dX2_putInOrder_40 rfl (lv_at hl 0 rfl) ?_
  refine rg_X2_21 C Z dX2_putInOrder_41 ?_
  refine lv_iload_n hx hb dX2_putInOrder_44 rfl (lv_at hl 1 rfl) ?_
  refine lv_aload_n hx hb dX2_putInOrder_45 rfl (lv_at hl 0 rfl) ?_
  refine rg_X2_52 C Z dX2_putInOrder_46 ?_
  obtain ⟨σ18, hσ18, h⟩ := ob h
  refine g_iast C Z iaC35 hσ18 dX2_putInOrder_49 (fun H locs Z => ?_)
  obtain rfl := Option.some.inj h
  exact hR _ _ _ _ Z dX2_putInOrder_50
set_option maxRecDepth 20000 in
theorem w_X2_putInOrder_5 {p : Program} {l : Launch} {e : Env} {s : State} {m : MethodId} {args : Array Value} {below : List Frame} {meth : Method} {c : Code} {Q : State → Prop} {D : va_G} {kc : Nat → ClassId} {ad : Nat → Nat} {A : Nat → Prop} {adK adV : Nat → Nat} (C : Cx (eC adK adV) p s m args c cX2_putInOrder 3 RX2 D kc A) {R : St} {x1 : Int32} (hR : RTv 0 0 p l e r_X2_putInOrder s m args below meth c cX2_putInOrder tC kc ad D A Q R) : ∀ (n : Nat) (x2 : Int32) (σ : St) (H : Heap) (locs : List Loc) (ls : Array Slot), Dy tC kc ad D A s.heap σ H locs → lv_has ls 3 [(0, .ref (ad 4)), (1, .int x1), (2, .int x2)] → f_X2_putInOrder_5 x1 n x2 σ = some R → W p l e r_X2_putInOrder s m args below meth c H locs 0 0 Q (F0 m 5 ls []) := by
  have hx := C.1.1
  have hb := C.1.2.1
  intro n
  induction n with
  | zero =>
    intro x2 σ H locs ls Z hl h
    exact absurd (show none = some R from h) (by simp)
  | succ n ih =>
    intro x2 σ H locs ls Z hl h
    rw [f_X2_putInOrder_5] at h
    refine lv_iload_n hx hb dX2_putInOrder_5 rfl (lv_at hl 2 rfl) ?_
    refine lv_if_le (tgt := 40) hx hb dX2_putInOrder_6 (by decide) (fun c6 => ?_) (fun c6 => ?_)
    · have h := ip h c6
      exact w_X2_putInOrder_40 C hR Z (lv_sub hl [0, 2] rfl) h
    · have h := im h c6
      refine lv_aload_n hx hb dX2_putInOrder_9 rfl (lv_at hl 0 rfl) ?_
      refine lv_iload_n hx hb dX2_putInOrder_10 rfl (lv_at hl 2 rfl) ?_
      refine lv_iconst (v := 1) hx hb dX2_putInOrder_11 (by decide) ?_
      refine lv_isub hx hb dX2_putInOrder_12 ?_
      obtain ⟨v14, hv14, h⟩ := ob h
      refine g_callVi (eC_ok adK adV) C Z (k_X2_minuteAt hv14) lk_X2_92 (by decide) rfl rfl hl (by decide) rfl (Nat.le_of_ble_eq_true rfl) (rest := []) rfl dX2_putInOrder_13 (fun H locs Z => ?_)
      refine lv_iload_n hx hb dX2_putInOrder_16 rfl (lv_at hl 1 rfl) ?_
      refine lv_icmp_gt (tgt := 40) hx hb dX2_putInOrder_17 (by decide) (fun c17 => ?_) (fun c17 => ?_)
      · have h := ip h c17
        exact w_X2_putInOrder_40 C hR Z (lv_sub hl [0, 2] rfl) h
      · have h := im h c17
        refine lv_aload_n hx hb dX2_putInOrder_20 rfl (lv_at hl 0 rfl) ?_
        refine rg_X2_21 C Z dX2_putInOrder_21 ?_
        refine lv_iload_n hx hb dX2_putInOrder_24 rfl (lv_at hl 2 rfl) ?_
        refine lv_aload_n hx hb dX2_putInOrder_25 rfl (lv_at hl 0 rfl) ?_
        refine rg_X2_21 C Z dX2_putInOrder_26 ?_
        refine lv_iload_n hx hb dX2_putInOrder_29 rfl (lv_at hl 2 rfl) ?_
        refine lv_iconst (v := 1) hx hb dX2_putInOrder_30 (by decide) ?_
        refine lv_isub hx hb dX2_putInOrder_31 ?_
        obtain ⟨v15, hv15, h⟩ := ob h
        refine g_iald C Z iaC35 hv15 dX2_putInOrder_32 ?_
        obtain ⟨σ16, hσ16, h⟩ := ob h
        refine g_iast C Z iaC35 hσ16 dX2_putInOrder_33 (fun H locs Z => ?_)
        obtain ⟨v17, ev17, h⟩ := lb h
        refine lv_iinc (v := v17) (lv' := [(2, .int v17), (0, .ref (ad 4)), (1, .int x1)]) hx hb dX2_putInOrder_34 hl (k := 2) rfl (by rw [ev17]; rfl) (by decide) rfl (fun ls hl => ?_)
        refine lv_goto (tgt := 5) hx hb dX2_putInOrder_37 (by decide) ?_
        exact ih _ _ _ _ _ Z (lv_sub hl [1, 2, 0] rfl) h
set_option maxRecDepth 20000 in
theorem w_X2_putInOrder_0 {p : Program} {l : Launch} {e : Env} {s : State} {m : MethodId} {args : Array Value} {below : List Frame} {meth : Method} {c : Code} {Q : State → Prop} {D : va_G} {kc : Nat → ClassId} {ad : Nat → Nat} {A : Nat → Prop} {adK adV : Nat → Nat} (C : Cx (eC adK adV) p s m args c cX2_putInOrder 3 RX2 D kc A) {R : St} {x1 : Int32} {σ : St} (hR : RTv 0 0 p l e r_X2_putInOrder s m args below meth c cX2_putInOrder tC kc ad D A Q R) {H : Heap} {locs : List Loc} {ls : Array Slot} (Z : Dy tC kc ad D A s.heap σ H locs) (hl : lv_has ls 3 [(0, .ref (ad 4)), (1, .int x1)]) (h : f_X2_putInOrder x1 σ = some R) : W p l e r_X2_putInOrder s m args below meth c H locs 0 0 Q (F0 m 0 ls []) := by
  have hx := C.1.1
  have hb := C.1.2.1
  unfold f_X2_putInOrder at h
  refine lv_aload_n hx hb dX2_putInOrder_0 rfl (lv_at hl 0 rfl) ?_
  refine rg_X2_52 C Z dX2_putInOrder_1 ?_
  obtain ⟨v13, ev13, h⟩ := lb h
  refine tn_i ev13 ?_
  refine lv_istore_n (lv' := [(2, .int v13), (0, .ref (ad 4)), (1, .int x1)]) hx hb dX2_putInOrder_4 rfl hl (by decide) rfl (fun ls hl => ?_)
  exact w_X2_putInOrder_5 C hR _ _ _ _ _ _ Z (lv_sub hl [1, 2, 0] rfl) h
theorem k_X2_putInOrder {l : Launch} {kc : Nat → ClassId} {ad : Nat → Nat} {D : va_G} {adK adV : Nat → Nat} {x1 : Int32} {σ : St} {R : St} (h : f_X2_putInOrder x1 σ = some R) : KC (eC adK adV) tC kc ad D l yX2_putInOrder (.code yX2_putInOrder cX2_putInOrder 3 none) r_X2_putInOrder [.ref (ad 4), .int x1] none σ R := by
  refine g_enter (by decide) (Nat.le_of_ble_eq_true rfl) ?_
  intro p e s m args below meth c A hA C hr hlocks Z ls hl
  have hl : lv_has ls 3 [(0, .ref (ad 4)), (1, .int x1)] := hl
  exact w_X2_putInOrder_0 C (g_RTv C.1.1 C.1.2.1 hr hlocks hA)  Z hl h
def r_X2_strikeOthers : Room := { frames := 1, cells := 0, slots := 0, locals := 25 }
set_option maxRecDepth 20000 in
theorem w_X2_strikeOthers_75 {p : Program} {l : Launch} {e : Env} {s : State} {m : MethodId} {args : Array Value} {below : List Frame} {meth : Method} {c : Code} {Q : State → Prop} {D : va_G} {kc : Nat → ClassId} {ad : Nat → Nat} {A : Nat → Prop} {adK adV : Nat → Nat} (C : Cx (eC adK adV) p s m args c cX2_strikeOthers 5 RX2 D kc A) {R : St} {x1 : Int32} {x2 : Int32} {x3 : Int32} {σ : St} (hR : RTv 0 0 p l e r_X2_strikeOthers s m args below meth c cX2_strikeOthers tC kc ad D A Q R) {k10 : Int32 → St → Option (St)} (hk10 : ∀ (x3 : Int32) (σ : St) (H : Heap) (locs : List Loc) (ls : Array Slot), Dy tC kc ad D A s.heap σ H locs → lv_has ls 5 [(0, .ref (ad 4)), (1, .int x1), (2, .int x2), (3, .int x3)] → k10 x3 σ = some R → W p l e r_X2_strikeOthers s m args below meth c H locs 0 0 Q (F0 m 10 ls [])) {H : Heap} {locs : List Loc} {ls : Array Slot} (Z : Dy tC kc ad D A s.heap σ H locs) (hl : lv_has ls 5 [(0, .ref (ad 4)), (1, .int x1), (2, .int x2), (3, .int x3)]) (h : f_X2_strikeOthers_75 x1 x2 x3 σ k10 = some R) : W p l e r_X2_strikeOthers s m args below meth c H locs 0 0 Q (F0 m 75 ls []) := by
  have hx := C.1.1
  have hb := C.1.2.1
  unfold f_X2_strikeOthers_75 at h
  obtain ⟨v24, ev24, h⟩ := lb h
  refine lv_iinc (v := v24) (lv' := [(3, .int v24), (0, .ref (ad 4)), (1, .int x1), (2, .int x2)]) hx hb dX2_strikeOthers_75 hl (k := 3) rfl (by rw [ev24]; rfl) (by decide) rfl (fun ls hl => ?_)
  refine lv_goto (tgt := 10) hx hb dX2_strikeOthers_78 (by decide) ?_
  exact hk10 _ _ _ _ _ Z (lv_sub hl [1, 2, 3, 0] rfl) h
set_option maxRecDepth 20000 in
theorem w_X2_strikeOthers_10 {p : Program} {l : Launch} {e : Env} {s : State} {m : MethodId} {args : Array Value} {below : List Frame} {meth : Method} {c : Code} {Q : State → Prop} {D : va_G} {kc : Nat → ClassId} {ad : Nat → Nat} {A : Nat → Prop} {adK adV : Nat → Nat} (C : Cx (eC adK adV) p s m args c cX2_strikeOthers 5 RX2 D kc A) {R : St} {x1 : Int32} {x2 : Int32} (hR : RTv 0 0 p l e r_X2_strikeOthers s m args below meth c cX2_strikeOthers tC kc ad D A Q R) : ∀ (n : Nat) (x3 : Int32) (σ : St) (H : Heap) (locs : List Loc) (ls : Array Slot), Dy tC kc ad D A s.heap σ H locs → lv_has ls 5 [(0, .ref (ad 4)), (1, .int x1), (2, .int x2), (3, .int x3)] → f_X2_strikeOthers_10 x1 x2 n x3 σ = some R → W p l e r_X2_strikeOthers s m args below meth c H locs 0 0 Q (F0 m 10 ls []) := by
  have hx := C.1.1
  have hb := C.1.2.1
  intro n
  induction n with
  | zero =>
    intro x3 σ H locs ls Z hl h
    exact absurd (show none = some R from h) (by simp)
  | succ n ih =>
    intro x3 σ H locs ls Z hl h
    rw [f_X2_strikeOthers_10] at h
    refine lv_iload_n hx hb dX2_strikeOthers_10 rfl (lv_at hl 3 rfl) ?_
    refine lv_iload_n hx hb dX2_strikeOthers_11 rfl (lv_at hl 2 rfl) ?_
    refine lv_aload_n hx hb dX2_strikeOthers_12 rfl (lv_at hl 0 rfl) ?_
    refine rg_X2_24 C Z dX2_strikeOthers_13 ?_
    refine lv_aload_n hx hb dX2_strikeOthers_16 rfl (lv_at hl 0 rfl) ?_
    refine rg_X2_52 C Z dX2_strikeOthers_17 ?_
    obtain ⟨v18, hv18, h⟩ := ob h
    refine g_iald C Z iaC36 hv18 dX2_strikeOthers_20 ?_
    refine lv_iadd hx hb dX2_strikeOthers_21 ?_
    refine lv_icmp_ge (tgt := 81) hx hb dX2_strikeOthers_22 (by decide) (fun c22 => ?_) (fun c22 => ?_)
    · have h := ip h c22
      obtain rfl := Option.some.inj h
      exact hR _ _ _ _ Z dX2_strikeOthers_81
    · have h := im h c22
      refine lv_aload_n hx hb dX2_strikeOthers_25 rfl (lv_at hl 0 rfl) ?_
      refine rg_X2_30 C Z dX2_strikeOthers_26 ?_
      refine lv_iload_n hx hb dX2_strikeOthers_29 rfl (lv_at hl 3 rfl) ?_
      obtain ⟨v19, hv19, h⟩ := ob h
      refine g_iald C Z iaC38 hv19 dX2_strikeOthers_30 ?_
      refine lv_bipush (v := 7) hx hb dX2_strikeOthers_31 (by decide) ?_
      refine lv_icmp_ne (tgt := 75) hx hb dX2_strikeOthers_33 (by decide) (fun c33 => ?_) (fun c33 => ?_)
      · have h := im h c33
        exact w_X2_strikeOthers_75 C hR ih Z (lv_sub hl [0, 1, 2, 3] rfl) h
      · have h := ip h c33
        refine lv_aload_n hx hb dX2_strikeOthers_36 rfl (lv_at hl 0 rfl) ?_
        refine lv_aload_n hx hb dX2_strikeOthers_37 rfl (lv_at hl 0 rfl) ?_
        refine rg_X2_33 C Z dX2_strikeOthers_38 ?_
        refine lv_iload_n hx hb dX2_strikeOthers_41 rfl (lv_at hl 3 rfl) ?_
        obtain ⟨v20, hv20, h⟩ := ob h
        refine g_iald C Z iaC39 hv20 dX2_strikeOthers_42 ?_
        refine g_callVi (eC_ok adK adV) C Z (k_X2_has v20 σ) lk_X2_56 (by decide) rfl rfl hl (by decide) rfl (Nat.le_of_ble_eq_true rfl) (rest := []) rfl dX2_strikeOthers_43 (fun H locs Z => ?_)
        refine lv_if_eq (tgt := 75) hx hb dX2_strikeOthers_46 (by decide) (fun c46 => ?_) (fun c46 => ?_)
        · have h := ip h c46
          exact w_X2_strikeOthers_75 C hR ih Z (lv_sub hl [0, 1, 2, 3] rfl) h
        · have h := im h c46
          refine lv_aload_n hx hb dX2_strikeOthers_49 rfl (lv_at hl 0 rfl) ?_
          refine rg_X2_33 C Z dX2_strikeOthers_50 ?_
          refine lv_iload_n hx hb dX2_strikeOthers_53 rfl (lv_at hl 3 rfl) ?_
          obtain ⟨v21, hv21, h⟩ := ob h
          refine g_iald C Z iaC39 hv21 dX2_strikeOthers_54 ?_
          refine lv_istore (lv' := [(4, .int v21), (0, .ref (ad 4)), (1, .int x1), (2, .int x2), (3, .int x3)]) hx hb dX2_strikeOthers_55 hl (by decide) rfl (fun ls hl => ?_)
          refine lv_aload_n hx hb dX2_strikeOthers_57 rfl (lv_at hl 1 rfl) ?_
          refine rg_X2_18 C Z dX2_strikeOthers_58 ?_
          refine lv_iload hx hb dX2_strikeOthers_61 (lv_at hl 0 rfl) ?_
          refine lv_aload_n hx hb dX2_strikeOthers_63 rfl (lv_at hl 1 rfl) ?_
          refine rg_X2_18 C Z dX2_strikeOthers_64 ?_
          refine lv_iload hx hb dX2_strikeOthers_67 (lv_at hl 0 rfl) ?_
          obtain ⟨v22, hv22, h⟩ := ob h
          refine g_iald C Z iaC34 hv22 dX2_strikeOthers_69 ?_
          refine lv_iload_n hx hb dX2_strikeOthers_70 rfl (lv_at hl 2 rfl) ?_
          refine g_min_7cf53 C hl wM_X2_100 (by decide) (rest := [.int v21, .ref (ad 34)]) (Nat.le_of_ble_eq_true rfl) dX2_strikeOthers_71 ?_
          obtain ⟨σ23, hσ23, h⟩ := ob h
          refine g_iast C Z iaC34 hσ23 dX2_strikeOthers_74 (fun H locs Z => ?_)
          exact w_X2_strikeOthers_75 C hR ih Z (lv_sub hl [1, 2, 3, 4] rfl) h
set_option maxRecDepth 20000 in
theorem w_X2_strikeOthers_0 {p : Program} {l : Launch} {e : Env} {s : State} {m : MethodId} {args : Array Value} {below : List Frame} {meth : Method} {c : Code} {Q : State → Prop} {D : va_G} {kc : Nat → ClassId} {ad : Nat → Nat} {A : Nat → Prop} {adK adV : Nat → Nat} (C : Cx (eC adK adV) p s m args c cX2_strikeOthers 5 RX2 D kc A) {R : St} {x1 : Int32} {σ : St} (hR : RTv 0 0 p l e r_X2_strikeOthers s m args below meth c cX2_strikeOthers tC kc ad D A Q R) {H : Heap} {locs : List Loc} {ls : Array Slot} (Z : Dy tC kc ad D A s.heap σ H locs) (hl : lv_has ls 5 [(0, .ref (ad 4)), (1, .int x1)]) (h : f_X2_strikeOthers x1 σ = some R) : W p l e r_X2_strikeOthers s m args below meth c H locs 0 0 Q (F0 m 0 ls []) := by
  have hx := C.1.1
  have hb := C.1.2.1
  unfold f_X2_strikeOthers at h
  refine lv_aload_n hx hb dX2_strikeOthers_0 rfl (lv_at hl 0 rfl) ?_
  refine rg_X2_52 C Z dX2_strikeOthers_1 ?_
  refine lv_bipush (v := 12) hx hb dX2_strikeOthers_4 (by decide) ?_
  refine lv_imul hx hb dX2_strikeOthers_6 ?_
  obtain ⟨v17, ev17, h⟩ := lb h
  refine tn_i ev17 ?_
  refine lv_istore_n (lv' := [(2, .int v17), (0, .ref (ad 4)), (1, .int x1)]) hx hb dX2_strikeOthers_7 rfl hl (by decide) rfl (fun ls hl => ?_)
  refine lv_iload_n hx hb dX2_strikeOthers_8 rfl (lv_at hl 0 rfl) ?_
  refine lv_istore_n (lv' := [(3, .int v17), (2, .int v17), (0, .ref (ad 4)), (1, .int x1)]) hx hb dX2_strikeOthers_9 rfl hl (by decide) rfl (fun ls hl => ?_)
  exact w_X2_strikeOthers_10 C hR _ _ _ _ _ _ Z (lv_sub hl [2, 3, 1, 0] rfl) h
theorem k_X2_strikeOthers {l : Launch} {kc : Nat → ClassId} {ad : Nat → Nat} {D : va_G} {adK adV : Nat → Nat} {x1 : Int32} {σ : St} {R : St} (h : f_X2_strikeOthers x1 σ = some R) : KC (eC adK adV) tC kc ad D l yX2_strikeOthers (.code yX2_strikeOthers cX2_strikeOthers 5 none) r_X2_strikeOthers [.ref (ad 4), .int x1] none σ R := by
  refine g_enter (by decide) (Nat.le_of_ble_eq_true rfl) ?_
  intro p e s m args below meth c A hA C hr hlocks Z ls hl
  have hl : lv_has ls 5 [(0, .ref (ad 4)), (1, .int x1)] := hl
  exact w_X2_strikeOthers_0 C (g_RTv C.1.1 C.1.2.1 hr hlocks hA)  Z hl h
def r_X2_enact : Room := { frames := 3, cells := 0, slots := 0, locals := 66 }
set_option maxRecDepth 20000 in
theorem w_X2_enact_0 {p : Program} {l : Launch} {e : Env} {s : State} {m : MethodId} {args : Array Value} {below : List Frame} {meth : Method} {c : Code} {Q : State → Prop} {D : va_G} {kc : Nat → ClassId} {ad : Nat → Nat} {A : Nat → Prop} {adK adV : Nat → Nat} (C : Cx (eC adK adV) p s m args c cX2_enact 3 RX2 D kc A) {R : Int32 × St} {x1 : Int32} {x2 : Int32} {σ : St} (hR : RTi 0 0 p l e r_X2_enact s m args below meth c cX2_enact tC kc ad D A Q .int R.1 R.2) {H : Heap} {locs : List Loc} {ls : Array Slot} (Z : Dy tC kc ad D A s.heap σ H locs) (hl : lv_has ls 3 [(0, .ref (ad 4)), (1, .int x1), (2, .int x2)]) (h : f_X2_enact x1 x2 σ = some R) : W p l e r_X2_enact s m args below meth c H locs 0 0 Q (F0 m 0 ls []) := by
  have hx := C.1.1
  have hb := C.1.2.1
  unfold f_X2_enact at h
  refine lv_aload_n hx hb dX2_enact_0 rfl (lv_at hl 0 rfl) ?_
  refine rg_X2_52 C Z dX2_enact_1 ?_
  refine lv_bipush (v := 12) hx hb dX2_enact_4 (by decide) ?_
  refine lv_icmp_lt (tgt := 11) hx hb dX2_enact_6 (by decide) (fun c6 => ?_) (fun c6 => ?_)
  · have h := ip h c6
    refine lv_aload_n hx hb dX2_enact_11 rfl (lv_at hl 0 rfl) ?_
    refine rg_X2_11 C Z dX2_enact_12 ?_
    refine lv_aload_n hx hb dX2_enact_15 rfl (lv_at hl 0 rfl) ?_
    refine rg_X2_52 C Z dX2_enact_16 ?_
    refine lv_iload_n hx hb dX2_enact_19 rfl (lv_at hl 1 rfl) ?_
    obtain ⟨σ15, hσ15, h⟩ := ob h
    refine g_iast C Z iaC32 hσ15 dX2_enact_20 (fun H locs Z => ?_)
    refine lv_aload_n hx hb dX2_enact_21 rfl (lv_at hl 0 rfl) ?_
    refine rg_X2_15 C Z dX2_enact_22 ?_
    refine lv_aload_n hx hb dX2_enact_25 rfl (lv_at hl 0 rfl) ?_
    refine rg_X2_52 C Z dX2_enact_26 ?_
    refine lv_iload_n hx hb dX2_enact_29 rfl (lv_at hl 2 rfl) ?_
    obtain ⟨σ16, hσ16, h⟩ := ob h
    refine g_iast C Z iaC33 hσ16 dX2_enact_30 (fun H locs Z => ?_)
    refine lv_aload_n hx hb dX2_enact_31 rfl (lv_at hl 0 rfl) ?_
    refine rg_X2_18 C Z dX2_enact_32 ?_
    refine lv_aload_n hx hb dX2_enact_35 rfl (lv_at hl 0 rfl) ?_
    refine rg_X2_52 C Z dX2_enact_36 ?_
    refine lv_sipush (v := 9000) hx hb dX2_enact_39 (by decide) ?_
    obtain ⟨σ17, hσ17, h⟩ := ob h
    refine g_iast C Z iaC34 hσ17 dX2_enact_42 (fun H locs Z => ?_)
    refine lv_aload_n hx hb dX2_enact_43 rfl (lv_at hl 0 rfl) ?_
    refine lv_aload_n hx hb dX2_enact_44 rfl (lv_at hl 0 rfl) ?_
    refine rg_X2_63 C Z dX2_enact_45 ?_
    obtain ⟨σ18, eσ18, h⟩ := lb h
    refine rp_X2_60 C Z eσ18 dX2_enact_48 (fun H locs Z => ?_)
    refine lv_aload_n hx hb dX2_enact_51 rfl (lv_at hl 0 rfl) ?_
    refine lv_iload_n hx hb dX2_enact_52 rfl (lv_at hl 2 rfl) ?_
    obtain ⟨σ19, hσ19, h⟩ := ob h
    refine g_callVv (eC_ok adK adV) C Z (k_X2_putInOrder hσ19) lk_X2_85 (by decide) rfl rfl hl (by decide) rfl (Nat.le_of_ble_eq_true rfl) (rest := []) rfl dX2_enact_53 (fun H locs Z => ?_)
    refine lv_aload_n hx hb dX2_enact_56 rfl (lv_at hl 0 rfl) ?_
    refine lv_iload_n hx hb dX2_enact_57 rfl (lv_at hl 2 rfl) ?_
    obtain ⟨σ20, hσ20, h⟩ := ob h
    refine g_callVv (eC_ok adK adV) C Z (k_X2_strikeOthers hσ20) lk_X2_89 (by decide) rfl rfl hl (by decide) rfl (Nat.le_of_ble_eq_true rfl) (rest := []) rfl dX2_enact_58 (fun H locs Z => ?_)
    refine lv_aload_n hx hb dX2_enact_61 rfl (lv_at hl 0 rfl) ?_
    refine lv_dup hx hb dX2_enact_62 rfl ?_
    refine rg_X2_52 C Z dX2_enact_63 ?_
    refine lv_iconst (v := 1) hx hb dX2_enact_66 (by decide) ?_
    refine lv_iadd hx hb dX2_enact_67 ?_
    obtain ⟨σ21, eσ21, h⟩ := lb h
    refine rp_X2_52 C Z eσ21 dX2_enact_68 (fun H locs Z => ?_)
    refine lv_aload_n hx hb dX2_enact_71 rfl (lv_at hl 0 rfl) ?_
    refine rg_X2_52 C Z dX2_enact_72 ?_
    refine lv_iconst (v := 1) hx hb dX2_enact_75 (by decide) ?_
    refine lv_isub hx hb dX2_enact_76 ?_
    obtain rfl := Option.some.inj h
    exact hR _ _ _ _ _ Z dX2_enact_77 rfl
  · have h := im h c6
    refine lv_iconst (v := (-1)) hx hb dX2_enact_9 (by decide) ?_
    obtain rfl := Option.some.inj h
    exact hR _ _ _ _ _ Z dX2_enact_10 rfl
theorem k_X2_enact {l : Launch} {kc : Nat → ClassId} {ad : Nat → Nat} {D : va_G} {adK adV : Nat → Nat} {x1 : Int32} {x2 : Int32} {σ : St} {R : Int32 × St} (h : f_X2_enact x1 x2 σ = some R) : KC (eC adK adV) tC kc ad D l yX2_enact (.code yX2_enact cX2_enact 3 (some .int)) r_X2_enact [.ref (ad 4), .int x1, .int x2] (some (.int R.1)) σ R.2 := by
  refine g_enter (by decide) (Nat.le_of_ble_eq_true rfl) ?_
  intro p e s m args below meth c A hA C hr hlocks Z ls hl
  have hl : lv_has ls 3 [(0, .ref (ad 4)), (1, .int x1), (2, .int x2)] := hl
  exact w_X2_enact_0 C (g_RTi C.1.1 C.1.2.1 hr hlocks hA)  Z hl h
def r_X2_stands : Room := { frames := 1, cells := 0, slots := 0, locals := 21 }
set_option maxRecDepth 20000 in
theorem w_X2_stands_32 {p : Program} {l : Launch} {e : Env} {s : State} {m : MethodId} {args : Array Value} {below : List Frame} {meth : Method} {c : Code} {Q : State → Prop} {D : va_G} {kc : Nat → ClassId} {ad : Nat → Nat} {A : Nat → Prop} {adK adV : Nat → Nat} (C : Cx (eC adK adV) p s m args c cX2_stands 3 RX2 D kc A) {R : Int32} {σ : St} (hR : RTi 0 0 p l e r_X2_stands s m args below meth c cX2_stands tC kc ad D A Q .boolean R σ) {H : Heap} {locs : List Loc} {ls : Array Slot} (Z : Dy tC kc ad D A s.heap σ H locs) (hl : lv_has ls 3 []) (h : f_X2_stands_32 σ = some R) : W p l e r_X2_stands s m args below meth c H locs 0 0 Q (F0 m 32 ls []) := by
  have hx := C.1.1
  have hb := C.1.2.1
  unfold f_X2_stands_32 at h
  refine lv_iconst (v := 0) hx hb dX2_stands_32 (by decide) ?_
  obtain rfl := Option.some.inj h
  exact hR _ _ _ _ _ Z dX2_stands_33 rfl
set_option maxRecDepth 20000 in
theorem w_X2_stands_0 {p : Program} {l : Launch} {e : Env} {s : State} {m : MethodId} {args : Array Value} {below : List Frame} {meth : Method} {c : Code} {Q : State → Prop} {D : va_G} {kc : Nat → ClassId} {ad : Nat → Nat} {A : Nat → Prop} {adK adV : Nat → Nat} (C : Cx (eC adK adV) p s m args c cX2_stands 3 RX2 D kc A) {R : Int32} {x1 : Int32} {x2 : Int32} {σ : St} (hR : RTi 0 0 p l e r_X2_stands s m args below meth c cX2_stands tC kc ad D A Q .boolean R σ) {H : Heap} {locs : List Loc} {ls : Array Slot} (Z : Dy tC kc ad D A s.heap σ H locs) (hl : lv_has ls 3 [(0, .ref (ad 4)), (1, .int x1), (2, .int x2)]) (h : f_X2_stands x1 x2 σ = some R) : W p l e r_X2_stands s m args below meth c H locs 0 0 Q (F0 m 0 ls []) := by
  have hx := C.1.1
  have hb := C.1.2.1
  unfold f_X2_stands at h
  refine lv_aload_n hx hb dX2_stands_0 rfl (lv_at hl 0 rfl) ?_
  refine lv_iload_n hx hb dX2_stands_1 rfl (lv_at hl 1 rfl) ?_
  refine g_callVi (eC_ok adK adV) C Z (k_X2_has x1 σ) lk_X2_56 (by decide) rfl rfl hl (by decide) rfl (Nat.le_of_ble_eq_true rfl) (rest := []) rfl dX2_stands_2 (fun H locs Z => ?_)
  refine lv_if_eq (tgt := 32) hx hb dX2_stands_5 (by decide) (fun c5 => ?_) (fun c5 => ?_)
  · have h := ip h c5
    exact w_X2_stands_32 C hR Z (lv_sub hl [] rfl) h
  · have h := im h c5
    refine lv_aload_n hx hb dX2_stands_8 rfl (lv_at hl 0 rfl) ?_
    refine rg_X2_15 C Z dX2_stands_9 ?_
    refine lv_iload_n hx hb dX2_stands_12 rfl (lv_at hl 1 rfl) ?_
    obtain ⟨v5, hv5, h⟩ := ob h
    refine g_iald C Z iaC33 hv5 dX2_stands_13 ?_
    refine lv_iload_n hx hb dX2_stands_14 rfl (lv_at hl 2 rfl) ?_
    refine lv_icmp_gt (tgt := 32) hx hb dX2_stands_15 (by decide) (fun c15 => ?_) (fun c15 => ?_)
    · have h := ip h c15
      exact w_X2_stands_32 C hR Z (lv_sub hl [] rfl) h
    · have h := im h c15
      refine lv_iload_n hx hb dX2_stands_18 rfl (lv_at hl 2 rfl) ?_
      refine lv_aload_n hx hb dX2_stands_19 rfl (lv_at hl 0 rfl) ?_
      refine rg_X2_18 C Z dX2_stands_20 ?_
      refine lv_iload_n hx hb dX2_stands_23 rfl (lv_at hl 1 rfl) ?_
      obtain ⟨v6, hv6, h⟩ := ob h
      refine g_iald C Z iaC34 hv6 dX2_stands_24 ?_
      refine lv_icmp_ge (tgt := 32) hx hb dX2_stands_25 (by decide) (fun c25 => ?_) (fun c25 => ?_)
      · have h := ip h c25
        exact w_X2_stands_32 C hR Z (lv_sub hl [] rfl) h
      · have h := im h c25
        refine lv_iconst (v := 1) hx hb dX2_stands_28 (by decide) ?_
        refine lv_goto (tgt := 33) hx hb dX2_stands_29 (by decide) ?_
        obtain rfl := Option.some.inj h
        exact hR _ _ _ _ _ Z dX2_stands_33 rfl
theorem k_X2_stands {l : Launch} {kc : Nat → ClassId} {ad : Nat → Nat} {D : va_G} {adK adV : Nat → Nat} {x1 : Int32} {x2 : Int32} {σ : St} {R : Int32} (h : f_X2_stands x1 x2 σ = some R) : KC (eC adK adV) tC kc ad D l yX2_stands (.code yX2_stands cX2_stands 3 (some .boolean)) r_X2_stands [.ref (ad 4), .int x1, .int x2] (some (.int R)) σ σ := by
  refine g_enter (by decide) (Nat.le_of_ble_eq_true rfl) ?_
  intro p e s m args below meth c A hA C hr hlocks Z ls hl
  have hl : lv_has ls 3 [(0, .ref (ad 4)), (1, .int x1), (2, .int x2)] := hl
  exact w_X2_stands_0 C (g_RTi C.1.1 C.1.2.1 hr hlocks hA)  Z hl h
def r_X2_wordOf : Room := { frames := 0, cells := 0, slots := 0, locals := 0 }
set_option maxRecDepth 20000 in
theorem w_X2_wordOf_20 {p : Program} {l : Launch} {e : Env} {s : State} {m : MethodId} {args : Array Value} {below : List Frame} {meth : Method} {c : Code} {Q : State → Prop} {D : va_G} {kc : Nat → ClassId} {ad : Nat → Nat} {A : Nat → Prop} {adK adV : Nat → Nat} (C : Cx (eC adK adV) p s m args c cX2_wordOf 3 RX2 D kc A) {R : Int64} {σ : St} (hR : RTl 0 0 p l e r_X2_wordOf s m args below meth c cX2_wordOf tC kc ad D A Q R σ) {H : Heap} {locs : List Loc} {ls : Array Slot} (Z : Dy tC kc ad D A s.heap σ H locs) (hl : lv_has ls 3 []) (h : f_X2_wordOf_20 σ = some R) : W p l e r_X2_wordOf s m args below meth c H locs 0 0 Q (F0 m 20 ls []) := by
  have hx := C.1.1
  have hb := C.1.2.1
  unfold f_X2_wordOf_20 at h
  refine lv_lconst (v := 0) hx hb dX2_wordOf_20 (by decide) ?_
  obtain rfl := Option.some.inj h
  exact hR _ _ _ _ Z dX2_wordOf_21
set_option maxRecDepth 20000 in
theorem w_X2_wordOf_0 {p : Program} {l : Launch} {e : Env} {s : State} {m : MethodId} {args : Array Value} {below : List Frame} {meth : Method} {c : Code} {Q : State → Prop} {D : va_G} {kc : Nat → ClassId} {ad : Nat → Nat} {A : Nat → Prop} {adK adV : Nat → Nat} (C : Cx (eC adK adV) p s m args c cX2_wordOf 3 RX2 D kc A) {R : Int64} {a1 : Nat} {x0 : Int32} {σ : St} (hR : RTl 0 0 p l e r_X2_wordOf s m args below meth c cX2_wordOf tC kc ad D A Q R σ) (ha1 : isArr tC 1 a1) {H : Heap} {locs : List Loc} {ls : Array Slot} (Z : Dy tC kc ad D A s.heap σ H locs) (hl : lv_has ls 3 [(0, .int x0), (1, .ref (ad a1))]) (h : f_X2_wordOf a1 x0 σ = some R) : W p l e r_X2_wordOf s m args below meth c H locs 0 0 Q (F0 m 0 ls []) := by
  have hx := C.1.1
  have hb := C.1.2.1
  unfold f_X2_wordOf at h
  refine lv_iconst (v := (-1)) hx hb dX2_wordOf_0 (by decide) ?_
  refine lv_iload_n hx hb dX2_wordOf_1 rfl (lv_at hl 0 rfl) ?_
  refine lv_isub hx hb dX2_wordOf_2 ?_
  obtain ⟨v5, ev5, h⟩ := lb h
  refine tn_i ev5 ?_
  refine lv_istore_n (lv' := [(2, .int v5), (0, .int x0), (1, .ref (ad a1))]) hx hb dX2_wordOf_3 rfl hl (by decide) rfl (fun ls hl => ?_)
  refine lv_iload_n hx hb dX2_wordOf_4 rfl (lv_at hl 0 rfl) ?_
  refine lv_if_lt (tgt := 20) hx hb dX2_wordOf_5 (by decide) (fun c5 => ?_) (fun c5 => ?_)
  · have h := ip h c5
    exact w_X2_wordOf_20 C hR Z (lv_sub hl [] rfl) h
  · have h := im h c5
    refine lv_iload_n hx hb dX2_wordOf_8 rfl (lv_at hl 0 rfl) ?_
    refine lv_aload_n hx hb dX2_wordOf_9 rfl (lv_at hl 2 rfl) ?_
    refine g_len C Z ha1 (by decide) (v := lenI tC σ a1) rfl dX2_wordOf_10 ?_
    refine lv_icmp_ge (tgt := 20) hx hb dX2_wordOf_11 (by decide) (fun c11 => ?_) (fun c11 => ?_)
    · have h := ip h c11
      exact w_X2_wordOf_20 C hR Z (lv_sub hl [] rfl) h
    · have h := im h c11
      refine lv_aload_n hx hb dX2_wordOf_14 rfl (lv_at hl 2 rfl) ?_
      refine lv_iload_n hx hb dX2_wordOf_15 rfl (lv_at hl 0 rfl) ?_
      obtain ⟨v6, hv6, h⟩ := ob h
      refine g_lald C Z ha1 hv6 dX2_wordOf_16 ?_
      refine lv_goto (tgt := 21) hx hb dX2_wordOf_17 (by decide) ?_
      obtain rfl := Option.some.inj h
      exact hR _ _ _ _ Z dX2_wordOf_21
theorem k_X2_wordOf {l : Launch} {kc : Nat → ClassId} {ad : Nat → Nat} {D : va_G} {adK adV : Nat → Nat} {a1 : Nat} (ha1 : isArr tC 1 a1) {x0 : Int32} {σ : St} {R : Int64} (h : f_X2_wordOf a1 x0 σ = some R) : KC (eC adK adV) tC kc ad D l yX2_wordOf (.code yX2_wordOf cX2_wordOf 3 (some .long)) r_X2_wordOf [.int x0, .ref (ad a1)] (some (.long R)) σ σ := by
  refine g_enter (by decide) (Nat.le_of_ble_eq_true rfl) ?_
  intro p e s m args below meth c A hA C hr hlocks Z ls hl
  have hl : lv_has ls 3 [(0, .int x0), (1, .ref (ad a1))] := hl
  exact w_X2_wordOf_0 C (g_RTl C.1.1 C.1.2.1 hr hlocks hA) ha1 Z hl h
def r_X2_join : Room := { frames := 0, cells := 0, slots := 0, locals := 0 }
set_option maxRecDepth 20000 in
theorem w_X2_join_0 {p : Program} {l : Launch} {e : Env} {s : State} {m : MethodId} {args : Array Value} {below : List Frame} {meth : Method} {c : Code} {Q : State → Prop} {D : va_G} {kc : Nat → ClassId} {ad : Nat → Nat} {A : Nat → Prop} {adK adV : Nat → Nat} (C : Cx (eC adK adV) p s m args c cX2_join 5 RX2 D kc A) {R : Int64} {x0 : Int32} {x1 : Int64} {x3 : Int64} {σ : St} (hR : RTl 0 0 p l e r_X2_join s m args below meth c cX2_join tC kc ad D A Q R σ) {H : Heap} {locs : List Loc} {ls : Array Slot} (Z : Dy tC kc ad D A s.heap σ H locs) (hl : lv_has ls 5 [(0, .int x0), (1, .long x1), (3, .long x3)]) (h : f_X2_join x0 x1 x3 = R) : W p l e r_X2_join s m args below meth c H locs 0 0 Q (F0 m 0 ls []) := by
  have hx := C.1.1
  have hb := C.1.2.1
  unfold f_X2_join at h
  refine lv_iload_n hx hb dX2_join_0 rfl (lv_at hl 0 rfl) ?_
  by_cases c1_0 : x0 = (-20)
  · have h := ip h c1_0
    refine lv_tableIn (tgt := 124) (off := 123) hx hb dX2_join_1 (by rw [c1_0]; decide) (by rw [c1_0]; decide) (by rw [c1_0]; decide) (by decide) ?_
    refine lv_lload_n hx hb dX2_join_124 rfl (lv_at hl 1 rfl) ?_
    refine lv_lload_n hx hb dX2_join_125 rfl (lv_at hl 2 rfl) ?_
    obtain ⟨v1, ev1, h⟩ := lb h
    have hj : W p l e r_X2_join s m args below meth c H locs 0 0 Q (F0 m 135 ls [.long v1]) := by
      subst h
      exact hR _ _ _ _ Z dX2_join_135
    refine g_lle (tgt := 134) hx hb dX2_join_126 dX2_join_127 (by decide) (fun c127 => ?_) (fun c127 => ?_)
    · rw [if_pos c127] at ev1
      refine lv_lconst (v := 0) hx hb dX2_join_134 (by decide) ?_
      exact tn_l ev1 hj
    · rw [if_neg c127] at ev1
      refine lv_lconst (v := 1) hx hb dX2_join_130 (by decide) ?_
      refine lv_goto (tgt := 135) hx hb dX2_join_131 (by decide) ?_
      exact tn_l ev1 hj
  have h := im h c1_0
  by_cases c1_1 : x0 = (-19)
  · have h := ip h c1_1
    refine lv_tableIn (tgt := 112) (off := 111) hx hb dX2_join_1 (by rw [c1_1]; decide) (by rw [c1_1]; decide) (by rw [c1_1]; decide) (by decide) ?_
    refine lv_lload_n hx hb dX2_join_112 rfl (lv_at hl 1 rfl) ?_
    refine lv_lload_n hx hb dX2_join_113 rfl (lv_at hl 2 rfl) ?_
    obtain ⟨v2, ev2, h⟩ := lb h
    have hj : W p l e r_X2_join s m args below meth c H locs 0 0 Q (F0 m 123 ls [.long v2]) := by
      subst h
      exact hR _ _ _ _ Z dX2_join_123
    refine g_llt (tgt := 122) hx hb dX2_join_114 dX2_join_115 (by decide) (fun c115 => ?_) (fun c115 => ?_)
    · rw [if_pos c115] at ev2
      refine lv_lconst (v := 0) hx hb dX2_join_122 (by decide) ?_
      exact tn_l ev2 hj
    · rw [if_neg c115] at ev2
      refine lv_lconst (v := 1) hx hb dX2_join_118 (by decide) ?_
      refine lv_goto (tgt := 123) hx hb dX2_join_119 (by decide) ?_
      exact tn_l ev2 hj
  have h := im h c1_1
  by_cases c1_2 : x0 = (-18)
  · have h := ip h c1_2
    refine lv_tableIn (tgt := 100) (off := 99) hx hb dX2_join_1 (by rw [c1_2]; decide) (by rw [c1_2]; decide) (by rw [c1_2]; decide) (by decide) ?_
    refine lv_lload_n hx hb dX2_join_100 rfl (lv_at hl 1 rfl) ?_
    refine lv_lload_n hx hb dX2_join_101 rfl (lv_at hl 2 rfl) ?_
    obtain ⟨v3, ev3, h⟩ := lb h
    have hj : W p l e r_X2_join s m args below meth c H locs 0 0 Q (F0 m 111 ls [.long v3]) := by
      subst h
      exact hR _ _ _ _ Z dX2_join_111
    refine g_lne (tgt := 110) hx hb dX2_join_102 dX2_join_103 (by decide) (fun c103 => ?_) (fun c103 => ?_)
    · rw [if_neg c103] at ev3
      refine lv_lconst (v := 0) hx hb dX2_join_110 (by decide) ?_
      exact tn_l ev3 hj
    · rw [if_pos c103] at ev3
      refine lv_lconst (v := 1) hx hb dX2_join_106 (by decide) ?_
      refine lv_goto (tgt := 111) hx hb dX2_join_107 (by decide) ?_
      exact tn_l ev3 hj
  have h := im h c1_2
  by_cases c1_3 : x0 = (-17)
  · have h := ip h c1_3
    refine lv_tableIn (tgt := 88) (off := 87) hx hb dX2_join_1 (by rw [c1_3]; decide) (by rw [c1_3]; decide) (by rw [c1_3]; decide) (by decide) ?_
    refine lv_lload_n hx hb dX2_join_88 rfl (lv_at hl 1 rfl) ?_
    refine lv_lload_n hx hb dX2_join_89 rfl (lv_at hl 2 rfl) ?_
    obtain ⟨v4, ev4, h⟩ := lb h
    have hj : W p l e r_X2_join s m args below meth c H locs 0 0 Q (F0 m 99 ls [.long v4]) := by
      subst h
      exact hR _ _ _ _ Z dX2_join_99
    refine g_lgt (tgt := 98) hx hb dX2_join_90 dX2_join_91 (by decide) (fun c91 => ?_) (fun c91 => ?_)
    · rw [if_pos c91] at ev4
      refine lv_lconst (v := 0) hx hb dX2_join_98 (by decide) ?_
      exact tn_l ev4 hj
    · rw [if_neg c91] at ev4
      refine lv_lconst (v := 1) hx hb dX2_join_94 (by decide) ?_
      refine lv_goto (tgt := 99) hx hb dX2_join_95 (by decide) ?_
      exact tn_l ev4 hj
  have h := im h c1_3
  by_cases c1_4 : x0 = (-16)
  · have h := ip h c1_4
    refine lv_tableIn (tgt := 76) (off := 75) hx hb dX2_join_1 (by rw [c1_4]; decide) (by rw [c1_4]; decide) (by rw [c1_4]; decide) (by decide) ?_
    refine lv_lload_n hx hb dX2_join_76 rfl (lv_at hl 1 rfl) ?_
    refine lv_lload_n hx hb dX2_join_77 rfl (lv_at hl 2 rfl) ?_
    obtain ⟨v5, ev5, h⟩ := lb h
    have hj : W p l e r_X2_join s m args below meth c H locs 0 0 Q (F0 m 87 ls [.long v5]) := by
      subst h
      exact hR _ _ _ _ Z dX2_join_87
    refine g_lge (tgt := 86) hx hb dX2_join_78 dX2_join_79 (by decide) (fun c79 => ?_) (fun c79 => ?_)
    · rw [if_pos c79] at ev5
      refine lv_lconst (v := 0) hx hb dX2_join_86 (by decide) ?_
      exact tn_l ev5 hj
    · rw [if_neg c79] at ev5
      refine lv_lconst (v := 1) hx hb dX2_join_82 (by decide) ?_
      refine lv_goto (tgt := 87) hx hb dX2_join_83 (by decide) ?_
      exact tn_l ev5 hj
  have h := im h c1_4
  by_cases c1_5 : x0 = (-15)
  · have h := ip h c1_5
    refine lv_tableIn (tgt := 64) (off := 63) hx hb dX2_join_1 (by rw [c1_5]; decide) (by rw [c1_5]; decide) (by rw [c1_5]; decide) (by decide) ?_
    refine lv_lload_n hx hb dX2_join_64 rfl (lv_at hl 1 rfl) ?_
    refine lv_lload_n hx hb dX2_join_65 rfl (lv_at hl 2 rfl) ?_
    refine lv_lmul hx hb dX2_join_66 ?_
    subst h
    exact hR _ _ _ _ Z dX2_join_67
  have h := im h c1_5
  by_cases c1_6 : x0 = (-14)
  · have h := ip h c1_6
    refine lv_tableIn (tgt := 60) (off := 59) hx hb dX2_join_1 (by rw [c1_6]; decide) (by rw [c1_6]; decide) (by rw [c1_6]; decide) (by decide) ?_
    refine lv_lload_n hx hb dX2_join_60 rfl (lv_at hl 1 rfl) ?_
    refine lv_lload_n hx hb dX2_join_61 rfl (lv_at hl 2 rfl) ?_
    refine lv_lsub hx hb dX2_join_62 ?_
    subst h
    exact hR _ _ _ _ Z dX2_join_63
  have h := im h c1_6
  by_cases c1_7 : x0 = (-13)
  · have h := ip h c1_7
    refine lv_tableIn (tgt := 56) (off := 55) hx hb dX2_join_1 (by rw [c1_7]; decide) (by rw [c1_7]; decide) (by rw [c1_7]; decide) (by decide) ?_
    refine lv_lload_n hx hb dX2_join_56 rfl (lv_at hl 1 rfl) ?_
    refine lv_lload_n hx hb dX2_join_57 rfl (lv_at hl 2 rfl) ?_
    refine lv_ladd hx hb dX2_join_58 ?_
    subst h
    exact hR _ _ _ _ Z dX2_join_59
  have h := im h c1_7
  by_cases c1_8 : x0 = (-12)
  · have h := ip h c1_8
    refine lv_tableIn (tgt := 72) (off := 71) hx hb dX2_join_1 (by rw [c1_8]; decide) (by rw [c1_8]; decide) (by rw [c1_8]; decide) (by decide) ?_
    refine lv_lload_n hx hb dX2_join_72 rfl (lv_at hl 1 rfl) ?_
    refine lv_lload_n hx hb dX2_join_73 rfl (lv_at hl 2 rfl) ?_
    refine lv_lor hx hb dX2_join_74 ?_
    subst h
    exact hR _ _ _ _ Z dX2_join_75
  have h := im h c1_8
  by_cases c1_9 : x0 = (-11)
  · have h := ip h c1_9
    refine lv_tableIn (tgt := 68) (off := 67) hx hb dX2_join_1 (by rw [c1_9]; decide) (by rw [c1_9]; decide) (by rw [c1_9]; decide) (by decide) ?_
    refine lv_lload_n hx hb dX2_join_68 rfl (lv_at hl 1 rfl) ?_
    refine lv_lload_n hx hb dX2_join_69 rfl (lv_at hl 2 rfl) ?_
    refine lv_land hx hb dX2_join_70 ?_
    subst h
    exact hR _ _ _ _ Z dX2_join_71
  have h := im h c1_9
  refine lv_tableOut (tgt := 136) hx hb dX2_join_1 ?_ (by decide) ?_
  · have t0 : ¬ x0.toInt = (-20) := fun e => c1_0 (i32_of (b := (-20)) (n := (-20)) e (by decide)); have t1 : ¬ x0.toInt = (-19) := fun e => c1_1 (i32_of (b := (-19)) (n := (-19)) e (by decide)); have t2 : ¬ x0.toInt = (-18) := fun e => c1_2 (i32_of (b := (-18)) (n := (-18)) e (by decide)); have t3 : ¬ x0.toInt = (-17) := fun e => c1_3 (i32_of (b := (-17)) (n := (-17)) e (by decide)); have t4 : ¬ x0.toInt = (-16) := fun e => c1_4 (i32_of (b := (-16)) (n := (-16)) e (by decide)); have t5 : ¬ x0.toInt = (-15) := fun e => c1_5 (i32_of (b := (-15)) (n := (-15)) e (by decide)); have t6 : ¬ x0.toInt = (-14) := fun e => c1_6 (i32_of (b := (-14)) (n := (-14)) e (by decide)); have t7 : ¬ x0.toInt = (-13) := fun e => c1_7 (i32_of (b := (-13)) (n := (-13)) e (by decide)); have t8 : ¬ x0.toInt = (-12) := fun e => c1_8 (i32_of (b := (-12)) (n := (-12)) e (by decide)); have t9 : ¬ x0.toInt = (-11) := fun e => c1_9 (i32_of (b := (-11)) (n := (-11)) e (by decide)); omega
  · refine lv_lconst (v := 0) hx hb dX2_join_136 (by decide) ?_
    subst h
    exact hR _ _ _ _ Z dX2_join_137
theorem k_X2_join {l : Launch} {kc : Nat → ClassId} {ad : Nat → Nat} {D : va_G} {adK adV : Nat → Nat} (x0 : Int32) (x1 : Int64) (x3 : Int64) (σ : St) : KC (eC adK adV) tC kc ad D l yX2_join (.code yX2_join cX2_join 5 (some .long)) r_X2_join [.int x0, .long x1, .long x3] (some (.long (f_X2_join x0 x1 x3))) σ σ := by
  refine g_enter (by decide) (Nat.le_of_ble_eq_true rfl) ?_
  intro p e s m args below meth c A hA C hr hlocks Z ls hl
  have hl : lv_has ls 5 [(0, .int x0), (1, .long x1), (3, .long x3)] := hl
  exact w_X2_join_0 C (g_RTl C.1.1 C.1.2.1 hr hlocks hA)  Z hl rfl
