def r_X5_cellOf : Room := { frames := 1, cells := 0, slots := 0, locals := 22 }
set_option maxRecDepth 20000 in
theorem w_X5_cellOf_81 {p : Program} {l : Launch} {e : Env} {s : State} {m : MethodId} {args : Array Value} {below : List Frame} {meth : Method} {c : Code} {Q : State → Prop} {D : va_G} {kc : Nat → ClassId} {ad : Nat → Nat} {A : Nat → Prop} {adK adV : Nat → Nat} (C : Cx (eC adK adV) p s m args c cX5_cellOf 6 RX5 D kc A) {R : Int32} {x5 : Int32} {σ : St} (hR : RTi 0 0 p l e r_X5_cellOf s m args below meth c cX5_cellOf tC kc ad D A Q .int R σ) {H : Heap} {locs : List Loc} {ls : Array Slot} (Z : Dy tC kc ad D A s.heap σ H locs) (hl : lv_has ls 6 [(0, .ref (ad 3)), (5, .int x5)]) (h : f_X5_cellOf_81 x5 σ = some R) : W p l e r_X5_cellOf s m args below meth c H locs 0 0 Q (F0 m 81 ls []) := by
  have hx := C.1.1
  have hb := C.1.2.1
  unfold f_X5_cellOf_81 at h
  refine lv_bipush (v := 24) hx hb dX5_cellOf_81 (by decide) ?_
  refine lv_aload_n hx hb dX5_cellOf_83 rfl (lv_at hl 0 rfl) ?_
  refine rg_X5_24 C Z dX5_cellOf_84 ?_
  refine lv_iload hx hb dX5_cellOf_87 (lv_at hl 1 rfl) ?_
  obtain ⟨v25, hv25, h⟩ := ob h
  refine g_iald C Z iaC26 hv25 dX5_cellOf_89 ?_
  refine lv_imul hx hb dX5_cellOf_90 ?_
  refine lv_aload_n hx hb dX5_cellOf_91 rfl (lv_at hl 0 rfl) ?_
  refine rg_X5_21 C Z dX5_cellOf_92 ?_
  refine lv_iload hx hb dX5_cellOf_95 (lv_at hl 1 rfl) ?_
  obtain ⟨v26, hv26, h⟩ := ob h
  refine g_iald C Z iaC25 hv26 dX5_cellOf_97 ?_
  refine lv_iadd hx hb dX5_cellOf_98 ?_
  obtain rfl := Option.some.inj h
  exact hR _ _ _ _ _ Z dX5_cellOf_99 rfl
set_option maxRecDepth 20000 in
theorem w_X5_cellOf_100 {p : Program} {l : Launch} {e : Env} {s : State} {m : MethodId} {args : Array Value} {below : List Frame} {meth : Method} {c : Code} {Q : State → Prop} {D : va_G} {kc : Nat → ClassId} {ad : Nat → Nat} {A : Nat → Prop} {adK adV : Nat → Nat} (C : Cx (eC adK adV) p s m args c cX5_cellOf 6 RX5 D kc A) {R : Int32} {x1 : Int32} {x2 : Int32} {x3 : Int32} {x4 : Int32} {σ : St} (hR : RTi 0 0 p l e r_X5_cellOf s m args below meth c cX5_cellOf tC kc ad D A Q .int R σ) {k8 : Int32 → Option (Int32)} (hk8 : ∀ (x4 : Int32) (H : Heap) (locs : List Loc) (ls : Array Slot), Dy tC kc ad D A s.heap σ H locs → lv_has ls 6 [(0, .ref (ad 3)), (1, .int x1), (2, .int x2), (3, .int x3), (4, .int x4)] → k8 x4 = some R → W p l e r_X5_cellOf s m args below meth c H locs 0 0 Q (F0 m 8 ls [])) {H : Heap} {locs : List Loc} {ls : Array Slot} (Z : Dy tC kc ad D A s.heap σ H locs) (hl : lv_has ls 6 [(0, .ref (ad 3)), (1, .int x1), (2, .int x2), (3, .int x3), (4, .int x4)]) (h : f_X5_cellOf_100 x1 x2 x3 x4 σ k8 = some R) : W p l e r_X5_cellOf s m args below meth c H locs 0 0 Q (F0 m 100 ls []) := by
  have hx := C.1.1
  have hb := C.1.2.1
  unfold f_X5_cellOf_100 at h
  obtain ⟨v27, ev27, h⟩ := lb h
  refine lv_iinc (v := v27) (lv' := [(4, .int v27), (0, .ref (ad 3)), (1, .int x1), (2, .int x2), (3, .int x3)]) hx hb dX5_cellOf_100 hl (k := 4) rfl (by rw [ev27]; rfl) (by decide) rfl (fun ls hl => ?_)
  refine lv_goto (tgt := 8) hx hb dX5_cellOf_103 (by decide) ?_
  exact hk8 _ _ _ _ Z (lv_sub hl [1, 2, 3, 4, 0] rfl) h
set_option maxRecDepth 20000 in
theorem w_X5_cellOf_8 {p : Program} {l : Launch} {e : Env} {s : State} {m : MethodId} {args : Array Value} {below : List Frame} {meth : Method} {c : Code} {Q : State → Prop} {D : va_G} {kc : Nat → ClassId} {ad : Nat → Nat} {A : Nat → Prop} {adK adV : Nat → Nat} (C : Cx (eC adK adV) p s m args c cX5_cellOf 6 RX5 D kc A) {R : Int32} {x1 : Int32} {x2 : Int32} {x3 : Int32} {σ : St} (hR : RTi 0 0 p l e r_X5_cellOf s m args below meth c cX5_cellOf tC kc ad D A Q .int R σ) : ∀ (n : Nat) (x4 : Int32) (H : Heap) (locs : List Loc) (ls : Array Slot), Dy tC kc ad D A s.heap σ H locs → lv_has ls 6 [(0, .ref (ad 3)), (1, .int x1), (2, .int x2), (3, .int x3), (4, .int x4)] → f_X5_cellOf_8 x1 x2 x3 σ n x4 = some R → W p l e r_X5_cellOf s m args below meth c H locs 0 0 Q (F0 m 8 ls []) := by
  have hx := C.1.1
  have hb := C.1.2.1
  intro n
  induction n with
  | zero =>
    intro x4 H locs ls Z hl h
    exact absurd (show none = some R from h) (by simp)
  | succ n ih =>
    intro x4 H locs ls Z hl h
    rw [f_X5_cellOf_8] at h
    refine lv_iload hx hb dX5_cellOf_8 (lv_at hl 4 rfl) ?_
    refine lv_if_lt (tgt := 106) hx hb dX5_cellOf_10 (by decide) (fun c10 => ?_) (fun c10 => ?_)
    · have h := ip h c10
      refine lv_iconst (v := (-1)) hx hb dX5_cellOf_106 (by decide) ?_
      obtain rfl := Option.some.inj h
      exact hR _ _ _ _ _ Z dX5_cellOf_107 rfl
    · have h := im h c10
      refine lv_aload_n hx hb dX5_cellOf_13 rfl (lv_at hl 0 rfl) ?_
      refine rg_X5_30 C Z dX5_cellOf_14 ?_
      refine lv_iload hx hb dX5_cellOf_17 (lv_at hl 4 rfl) ?_
      obtain ⟨v20, hv20, h⟩ := ob h
      refine g_iald C Z iaC28 hv20 dX5_cellOf_19 ?_
      refine lv_istore (lv' := [(5, .int v20), (0, .ref (ad 3)), (1, .int x1), (2, .int x2), (3, .int x3), (4, .int x4)]) hx hb dX5_cellOf_20 hl (by decide) rfl (fun ls hl => ?_)
      refine lv_iload hx hb dX5_cellOf_22 (lv_at hl 0 rfl) ?_
      refine lv_iconst (v := 0) hx hb dX5_cellOf_24 (by decide) ?_
      refine lv_aload_n hx hb dX5_cellOf_25 rfl (lv_at hl 1 rfl) ?_
      refine rg_X5_42 C Z dX5_cellOf_26 ?_
      refine lv_iconst (v := 1) hx hb dX5_cellOf_29 (by decide) ?_
      refine lv_isub hx hb dX5_cellOf_30 ?_
      refine g_callNi (eC_ok adK adV) C Z (k_X10_lies v20 0 ((gF σ 307) - 1) σ) (C.2.2.2.1 _ nw_X5_54) lkn_X10_lies hl (by decide) rfl (Nat.le_of_ble_eq_true rfl) (rest := []) rfl dX5_cellOf_31 (fun H locs Z => ?_)
      refine lv_if_eq (tgt := 100) hx hb dX5_cellOf_34 (by decide) (fun c34 => ?_) (fun c34 => ?_)
      · have h := ip h c34
        exact w_X5_cellOf_100 C hR ih Z (lv_sub hl [1, 2, 3, 4, 5] rfl) h
      · have h := im h c34
        refine lv_aload_n hx hb dX5_cellOf_37 rfl (lv_at hl 1 rfl) ?_
        refine rg_X5_15 C Z dX5_cellOf_38 ?_
        refine lv_iload hx hb dX5_cellOf_41 (lv_at hl 0 rfl) ?_
        obtain ⟨v21, hv21, h⟩ := ob h
        refine g_iald C Z iaC23 hv21 dX5_cellOf_43 ?_
        refine lv_iload_n hx hb dX5_cellOf_44 rfl (lv_at hl 2 rfl) ?_
        refine lv_icmp_ne (tgt := 100) hx hb dX5_cellOf_45 (by decide) (fun c45 => ?_) (fun c45 => ?_)
        · have h := im h c45
          exact w_X5_cellOf_100 C hR ih Z (lv_sub hl [1, 2, 3, 4, 5] rfl) h
        · have h := ip h c45
          refine lv_aload_n hx hb dX5_cellOf_48 rfl (lv_at hl 1 rfl) ?_
          refine rg_X5_11 C Z dX5_cellOf_49 ?_
          refine lv_iload hx hb dX5_cellOf_52 (lv_at hl 0 rfl) ?_
          obtain ⟨v22, hv22, h⟩ := ob h
          refine g_iald C Z iaC22 hv22 dX5_cellOf_54 ?_
          refine lv_iload_n hx hb dX5_cellOf_55 rfl (lv_at hl 2 rfl) ?_
          refine lv_icmp_ne (tgt := 100) hx hb dX5_cellOf_56 (by decide) (fun c56 => ?_) (fun c56 => ?_)
          · have h := im h c56
            exact w_X5_cellOf_100 C hR ih Z (lv_sub hl [1, 2, 3, 4, 5] rfl) h
          · have h := ip h c56
            refine lv_aload_n hx hb dX5_cellOf_59 rfl (lv_at hl 1 rfl) ?_
            refine rg_X5_18 C Z dX5_cellOf_60 ?_
            refine lv_iload hx hb dX5_cellOf_63 (lv_at hl 0 rfl) ?_
            obtain ⟨v23, hv23, h⟩ := ob h
            refine g_iald C Z iaC24 hv23 dX5_cellOf_65 ?_
            refine lv_iload_n hx hb dX5_cellOf_66 rfl (lv_at hl 3 rfl) ?_
            refine lv_icmp_gt (tgt := 100) hx hb dX5_cellOf_67 (by decide) (fun c67 => ?_) (fun c67 => ?_)
            · have h := ip h c67
              exact w_X5_cellOf_100 C hR ih Z (lv_sub hl [1, 2, 3, 4, 5] rfl) h
            · have h := im h c67
              refine lv_aload_n hx hb dX5_cellOf_70 rfl (lv_at hl 1 rfl) ?_
              refine rg_X5_27 C Z dX5_cellOf_71 ?_
              refine lv_iload hx hb dX5_cellOf_74 (lv_at hl 0 rfl) ?_
              obtain ⟨v24, hv24, h⟩ := ob h
              refine g_iald C Z iaC27 hv24 dX5_cellOf_76 ?_
              refine lv_iload_n hx hb dX5_cellOf_77 rfl (lv_at hl 4 rfl) ?_
              refine lv_icmp_gt (tgt := 100) hx hb dX5_cellOf_78 (by decide) (fun c78 => ?_) (fun c78 => ?_)
              · have h := ip h c78
                exact w_X5_cellOf_100 C hR ih Z (lv_sub hl [1, 2, 3, 4, 5] rfl) h
              · have h := im h c78
                exact w_X5_cellOf_81 C hR Z (lv_sub hl [1, 0] rfl) h
set_option maxRecDepth 20000 in
theorem w_X5_cellOf_0 {p : Program} {l : Launch} {e : Env} {s : State} {m : MethodId} {args : Array Value} {below : List Frame} {meth : Method} {c : Code} {Q : State → Prop} {D : va_G} {kc : Nat → ClassId} {ad : Nat → Nat} {A : Nat → Prop} {adK adV : Nat → Nat} (C : Cx (eC adK adV) p s m args c cX5_cellOf 6 RX5 D kc A) {R : Int32} {x1 : Int32} {x2 : Int32} {x3 : Int32} {σ : St} (hR : RTi 0 0 p l e r_X5_cellOf s m args below meth c cX5_cellOf tC kc ad D A Q .int R σ) {H : Heap} {locs : List Loc} {ls : Array Slot} (Z : Dy tC kc ad D A s.heap σ H locs) (hl : lv_has ls 6 [(0, .ref (ad 3)), (1, .int x1), (2, .int x2), (3, .int x3)]) (h : f_X5_cellOf x1 x2 x3 σ = some R) : W p l e r_X5_cellOf s m args below meth c H locs 0 0 Q (F0 m 0 ls []) := by
  have hx := C.1.1
  have hb := C.1.2.1
  unfold f_X5_cellOf at h
  refine lv_aload_n hx hb dX5_cellOf_0 rfl (lv_at hl 0 rfl) ?_
  refine rg_X5_42 C Z dX5_cellOf_1 ?_
  refine lv_iconst (v := 1) hx hb dX5_cellOf_4 (by decide) ?_
  refine lv_isub hx hb dX5_cellOf_5 ?_
  obtain ⟨v19, ev19, h⟩ := lb h
  refine tn_i ev19 ?_
  refine lv_istore (lv' := [(4, .int v19), (0, .ref (ad 3)), (1, .int x1), (2, .int x2), (3, .int x3)]) hx hb dX5_cellOf_6 hl (by decide) rfl (fun ls hl => ?_)
  exact w_X5_cellOf_8 C hR _ _ _ _ _ Z (lv_sub hl [1, 2, 3, 4, 0] rfl) h
theorem k_X5_cellOf {l : Launch} {kc : Nat → ClassId} {ad : Nat → Nat} {D : va_G} {adK adV : Nat → Nat} {x1 : Int32} {x2 : Int32} {x3 : Int32} {σ : St} {R : Int32} (h : f_X5_cellOf x1 x2 x3 σ = some R) : KC (eC adK adV) tC kc ad D l yX5_cellOf (.code yX5_cellOf cX5_cellOf 6 (some .int)) r_X5_cellOf [.ref (ad 3), .int x1, .int x2, .int x3] (some (.int R)) σ σ := by
  refine g_enter (by decide) (Nat.le_of_ble_eq_true rfl) ?_
  intro p e s m args below meth c A hA C hr hlocks Z ls hl
  have hl : lv_has ls 6 [(0, .ref (ad 3)), (1, .int x1), (2, .int x2), (3, .int x3)] := hl
  exact w_X5_cellOf_0 C (g_RTi C.1.1 C.1.2.1 hr hlocks hA)  Z hl h
def r_X5_pick : Room := { frames := 1, cells := 0, slots := 0, locals := 22 }
set_option maxRecDepth 20000 in
theorem w_X5_pick_71 {p : Program} {l : Launch} {e : Env} {s : State} {m : MethodId} {args : Array Value} {below : List Frame} {meth : Method} {c : Code} {Q : State → Prop} {D : va_G} {kc : Nat → ClassId} {ad : Nat → Nat} {A : Nat → Prop} {adK adV : Nat → Nat} (C : Cx (eC adK adV) p s m args c cX5_pick 6 RX5 D kc A) {R : Int32 × St} {x1 : Int32} {x2 : Int32} {x3 : Int32} {x4 : Int32} {σ : St} (hR : RTi 0 0 p l e r_X5_pick s m args below meth c cX5_pick tC kc ad D A Q .int R.1 R.2) {k5 : Int32 → Int32 → St → Option (Int32 × St)} (hk5 : ∀ (x3 : Int32) (x4 : Int32) (σ : St) (H : Heap) (locs : List Loc) (ls : Array Slot), Dy tC kc ad D A s.heap σ H locs → lv_has ls 6 [(0, .ref (ad 3)), (1, .int x1), (2, .int x2), (3, .int x3), (4, .int x4)] → k5 x3 x4 σ = some R → W p l e r_X5_pick s m args below meth c H locs 0 0 Q (F0 m 5 ls [])) {H : Heap} {locs : List Loc} {ls : Array Slot} (Z : Dy tC kc ad D A s.heap σ H locs) (hl : lv_has ls 6 [(0, .ref (ad 3)), (1, .int x1), (2, .int x2), (3, .int x3), (4, .int x4)]) (h : f_X5_pick_71 x1 x2 x3 x4 σ k5 = some R) : W p l e r_X5_pick s m args below meth c H locs 0 0 Q (F0 m 71 ls []) := by
  have hx := C.1.1
  have hb := C.1.2.1
  unfold f_X5_pick_71 at h
  obtain ⟨v18, ev18, h⟩ := lb h
  refine lv_iinc (v := v18) (lv' := [(4, .int v18), (0, .ref (ad 3)), (1, .int x1), (2, .int x2), (3, .int x3)]) hx hb dX5_pick_71 hl (k := 4) rfl (by rw [ev18]; rfl) (by decide) rfl (fun ls hl => ?_)
  refine lv_goto (tgt := 5) hx hb dX5_pick_74 (by decide) ?_
  exact hk5 _ _ _ _ _ _ Z (lv_sub hl [1, 2, 3, 4, 0] rfl) h
set_option maxRecDepth 20000 in
theorem w_X5_pick_5 {p : Program} {l : Launch} {e : Env} {s : State} {m : MethodId} {args : Array Value} {below : List Frame} {meth : Method} {c : Code} {Q : State → Prop} {D : va_G} {kc : Nat → ClassId} {ad : Nat → Nat} {A : Nat → Prop} {adK adV : Nat → Nat} (C : Cx (eC adK adV) p s m args c cX5_pick 6 RX5 D kc A) {R : Int32 × St} {x1 : Int32} {x2 : Int32} (hR : RTi 0 0 p l e r_X5_pick s m args below meth c cX5_pick tC kc ad D A Q .int R.1 R.2) : ∀ (n : Nat) (x3 : Int32) (x4 : Int32) (σ : St) (H : Heap) (locs : List Loc) (ls : Array Slot), Dy tC kc ad D A s.heap σ H locs → lv_has ls 6 [(0, .ref (ad 3)), (1, .int x1), (2, .int x2), (3, .int x3), (4, .int x4)] → f_X5_pick_5 x1 x2 n x3 x4 σ = some R → W p l e r_X5_pick s m args below meth c H locs 0 0 Q (F0 m 5 ls []) := by
  have hx := C.1.1
  have hb := C.1.2.1
  intro n
  induction n with
  | zero =>
    intro x3 x4 σ H locs ls Z hl h
    exact absurd (show none = some R from h) (by simp)
  | succ n ih =>
    intro x3 x4 σ H locs ls Z hl h
    rw [f_X5_pick_5] at h
    refine lv_iload hx hb dX5_pick_5 (lv_at hl 4 rfl) ?_
    refine lv_aload_n hx hb dX5_pick_7 rfl (lv_at hl 0 rfl) ?_
    refine rg_X5_42 C Z dX5_pick_8 ?_
    refine lv_icmp_ge (tgt := 77) hx hb dX5_pick_11 (by decide) (fun c11 => ?_) (fun c11 => ?_)
    · have h := ip h c11
      refine lv_iload_n hx hb dX5_pick_77 rfl (lv_at hl 3 rfl) ?_
      obtain rfl := Option.some.inj h
      exact hR _ _ _ _ _ Z dX5_pick_78 rfl
    · have h := im h c11
      refine lv_aload_n hx hb dX5_pick_14 rfl (lv_at hl 0 rfl) ?_
      refine rg_X5_30 C Z dX5_pick_15 ?_
      refine lv_iload hx hb dX5_pick_18 (lv_at hl 4 rfl) ?_
      obtain ⟨v13, hv13, h⟩ := ob h
      refine g_iald C Z iaC28 hv13 dX5_pick_20 ?_
      refine lv_istore (lv' := [(5, .int v13), (0, .ref (ad 3)), (1, .int x1), (2, .int x2), (3, .int x3), (4, .int x4)]) hx hb dX5_pick_21 hl (by decide) rfl (fun ls hl => ?_)
      refine lv_iload hx hb dX5_pick_23 (lv_at hl 0 rfl) ?_
      refine lv_iconst (v := 0) hx hb dX5_pick_25 (by decide) ?_
      refine lv_aload_n hx hb dX5_pick_26 rfl (lv_at hl 1 rfl) ?_
      refine rg_X5_42 C Z dX5_pick_27 ?_
      refine lv_iconst (v := 1) hx hb dX5_pick_30 (by decide) ?_
      refine lv_isub hx hb dX5_pick_31 ?_
      refine g_callNi (eC_ok adK adV) C Z (k_X10_lies v13 0 ((gF σ 307) - 1) σ) (C.2.2.2.1 _ nw_X5_54) lkn_X10_lies hl (by decide) rfl (Nat.le_of_ble_eq_true rfl) (rest := []) rfl dX5_pick_32 (fun H locs Z => ?_)
      refine lv_if_eq (tgt := 71) hx hb dX5_pick_35 (by decide) (fun c35 => ?_) (fun c35 => ?_)
      · have h := ip h c35
        exact w_X5_pick_71 C hR ih Z (lv_sub hl [1, 2, 3, 4, 5] rfl) h
      · have h := im h c35
        refine lv_aload_n hx hb dX5_pick_38 rfl (lv_at hl 1 rfl) ?_
        refine rg_X5_15 C Z dX5_pick_39 ?_
        refine lv_iload hx hb dX5_pick_42 (lv_at hl 0 rfl) ?_
        obtain ⟨v14, hv14, h⟩ := ob h
        refine g_iald C Z iaC23 hv14 dX5_pick_44 ?_
        refine lv_iload_n hx hb dX5_pick_45 rfl (lv_at hl 2 rfl) ?_
        refine lv_icmp_ne (tgt := 71) hx hb dX5_pick_46 (by decide) (fun c46 => ?_) (fun c46 => ?_)
        · have h := im h c46
          exact w_X5_pick_71 C hR ih Z (lv_sub hl [1, 2, 3, 4, 5] rfl) h
        · have h := ip h c46
          refine lv_aload_n hx hb dX5_pick_49 rfl (lv_at hl 1 rfl) ?_
          refine rg_X5_27 C Z dX5_pick_50 ?_
          refine lv_iload hx hb dX5_pick_53 (lv_at hl 0 rfl) ?_
          obtain ⟨v15, hv15, h⟩ := ob h
          refine g_iald C Z iaC27 hv15 dX5_pick_55 ?_
          refine lv_iload_n hx hb dX5_pick_56 rfl (lv_at hl 3 rfl) ?_
          refine lv_icmp_gt (tgt := 71) hx hb dX5_pick_57 (by decide) (fun c57 => ?_) (fun c57 => ?_)
          · have h := ip h c57
            exact w_X5_pick_71 C hR ih Z (lv_sub hl [1, 2, 3, 4, 5] rfl) h
          · have h := im h c57
            refine lv_aload_n hx hb dX5_pick_60 rfl (lv_at hl 1 rfl) ?_
            refine rg_X5_33 C Z dX5_pick_61 ?_
            refine lv_iload_n hx hb dX5_pick_64 rfl (lv_at hl 4 rfl) ?_
            refine lv_iload hx hb dX5_pick_65 (lv_at hl 0 rfl) ?_
            obtain ⟨σ16, hσ16, h⟩ := ob h
            refine g_iast C Z iaC29 hσ16 dX5_pick_67 (fun H locs Z => ?_)
            obtain ⟨v17, ev17, h⟩ := lb h
            refine lv_iinc (v := v17) (lv' := [(3, .int v17), (5, .int v13), (0, .ref (ad 3)), (1, .int x1), (2, .int x2), (4, .int x4)]) hx hb dX5_pick_68 hl (k := 4) rfl (by rw [ev17]; rfl) (by decide) rfl (fun ls hl => ?_)
            exact w_X5_pick_71 C hR ih Z (lv_sub hl [2, 3, 4, 0, 5] rfl) h
set_option maxRecDepth 20000 in
theorem w_X5_pick_0 {p : Program} {l : Launch} {e : Env} {s : State} {m : MethodId} {args : Array Value} {below : List Frame} {meth : Method} {c : Code} {Q : State → Prop} {D : va_G} {kc : Nat → ClassId} {ad : Nat → Nat} {A : Nat → Prop} {adK adV : Nat → Nat} (C : Cx (eC adK adV) p s m args c cX5_pick 6 RX5 D kc A) {R : Int32 × St} {x1 : Int32} {x2 : Int32} {σ : St} (hR : RTi 0 0 p l e r_X5_pick s m args below meth c cX5_pick tC kc ad D A Q .int R.1 R.2) {H : Heap} {locs : List Loc} {ls : Array Slot} (Z : Dy tC kc ad D A s.heap σ H locs) (hl : lv_has ls 6 [(0, .ref (ad 3)), (1, .int x1), (2, .int x2)]) (h : f_X5_pick x1 x2 σ = some R) : W p l e r_X5_pick s m args below meth c H locs 0 0 Q (F0 m 0 ls []) := by
  have hx := C.1.1
  have hb := C.1.2.1
  unfold f_X5_pick at h
  refine lv_iconst (v := 0) hx hb dX5_pick_0 (by decide) ?_
  refine lv_istore_n (lv' := [(3, .int 0), (0, .ref (ad 3)), (1, .int x1), (2, .int x2)]) hx hb dX5_pick_1 rfl hl (by decide) rfl (fun ls hl => ?_)
  refine lv_iconst (v := 0) hx hb dX5_pick_2 (by decide) ?_
  refine lv_istore (lv' := [(4, .int 0), (3, .int 0), (0, .ref (ad 3)), (1, .int x1), (2, .int x2)]) hx hb dX5_pick_3 hl (by decide) rfl (fun ls hl => ?_)
  exact w_X5_pick_5 C hR _ _ _ _ _ _ _ Z (lv_sub hl [2, 3, 4, 1, 0] rfl) h
theorem k_X5_pick {l : Launch} {kc : Nat → ClassId} {ad : Nat → Nat} {D : va_G} {adK adV : Nat → Nat} {x1 : Int32} {x2 : Int32} {σ : St} {R : Int32 × St} (h : f_X5_pick x1 x2 σ = some R) : KC (eC adK adV) tC kc ad D l yX5_pick (.code yX5_pick cX5_pick 6 (some .int)) r_X5_pick [.ref (ad 3), .int x1, .int x2] (some (.int R.1)) σ R.2 := by
  refine g_enter (by decide) (Nat.le_of_ble_eq_true rfl) ?_
  intro p e s m args below meth c A hA C hr hlocks Z ls hl
  have hl : lv_has ls 6 [(0, .ref (ad 3)), (1, .int x1), (2, .int x2)] := hl
  exact w_X5_pick_0 C (g_RTi C.1.1 C.1.2.1 hr hlocks hA)  Z hl h
def r_X5_canBothBe : Room := { frames := 1, cells := 0, slots := 0, locals := 25 }
set_option maxRecDepth 20000 in
theorem w_X5_canBothBe_0 {p : Program} {l : Launch} {e : Env} {s : State} {m : MethodId} {args : Array Value} {below : List Frame} {meth : Method} {c : Code} {Q : State → Prop} {D : va_G} {kc : Nat → ClassId} {ad : Nat → Nat} {A : Nat → Prop} {adK adV : Nat → Nat} (C : Cx (eC adK adV) p s m args c cX5_canBothBe 5 RX5 D kc A) {R : Int32} {x1 : Int32} {x2 : Int32} {x3 : Int32} {σ : St} (hR : RTi 0 0 p l e r_X5_canBothBe s m args below meth c cX5_canBothBe tC kc ad D A Q .boolean R σ) {H : Heap} {locs : List Loc} {ls : Array Slot} (Z : Dy tC kc ad D A s.heap σ H locs) (hl : lv_has ls 5 [(0, .ref (ad 3)), (1, .int x1), (2, .int x2), (3, .int x3)]) (h : f_X5_canBothBe x1 x2 x3 σ = some R) : W p l e r_X5_canBothBe s m args below meth c H locs 0 0 Q (F0 m 0 ls []) := by
  have hx := C.1.1
  have hb := C.1.2.1
  unfold f_X5_canBothBe at h
  refine lv_iload_n hx hb dX5_canBothBe_0 rfl (lv_at hl 1 rfl) ?_
  refine lv_iconst (v := 0) hx hb dX5_canBothBe_1 (by decide) ?_
  refine lv_aload_n hx hb dX5_canBothBe_2 rfl (lv_at hl 0 rfl) ?_
  refine rg_X5_42 C Z dX5_canBothBe_3 ?_
  refine lv_iconst (v := 1) hx hb dX5_canBothBe_6 (by decide) ?_
  refine lv_isub hx hb dX5_canBothBe_7 ?_
  refine g_callNi (eC_ok adK adV) C Z (k_X10_lies x1 0 ((gF σ 307) - 1) σ) (C.2.2.2.1 _ nw_X5_54) lkn_X10_lies hl (by decide) rfl (Nat.le_of_ble_eq_true rfl) (rest := []) rfl dX5_canBothBe_8 (fun H locs Z => ?_)
  refine lv_if_eq (tgt := 28) hx hb dX5_canBothBe_11 (by decide) (fun c11 => ?_) (fun c11 => ?_)
  · have h := ip h c11
    refine lv_iconst (v := 0) hx hb dX5_canBothBe_28 (by decide) ?_
    obtain rfl := Option.some.inj h
    exact hR _ _ _ _ _ Z dX5_canBothBe_29 rfl
  · have h := im h c11
    refine lv_iload_n hx hb dX5_canBothBe_14 rfl (lv_at hl 2 rfl) ?_
    refine lv_iconst (v := 0) hx hb dX5_canBothBe_15 (by decide) ?_
    refine lv_aload_n hx hb dX5_canBothBe_16 rfl (lv_at hl 0 rfl) ?_
    refine rg_X5_42 C Z dX5_canBothBe_17 ?_
    refine lv_iconst (v := 1) hx hb dX5_canBothBe_20 (by decide) ?_
    refine lv_isub hx hb dX5_canBothBe_21 ?_
    refine g_callNi (eC_ok adK adV) C Z (k_X10_lies x2 0 ((gF σ 307) - 1) σ) (C.2.2.2.1 _ nw_X5_54) lkn_X10_lies hl (by decide) rfl (Nat.le_of_ble_eq_true rfl) (rest := []) rfl dX5_canBothBe_22 (fun H locs Z => ?_)
    refine lv_if_ne (tgt := 30) hx hb dX5_canBothBe_25 (by decide) (fun c25 => ?_) (fun c25 => ?_)
    · have h := im h c25
      refine lv_aload_n hx hb dX5_canBothBe_30 rfl (lv_at hl 0 rfl) ?_
      refine rg_X5_21 C Z dX5_canBothBe_31 ?_
      refine lv_iload_n hx hb dX5_canBothBe_34 rfl (lv_at hl 1 rfl) ?_
      obtain ⟨v15, hv15, h⟩ := ob h
      refine g_iald C Z iaC25 hv15 dX5_canBothBe_35 ?_
      refine lv_aload_n hx hb dX5_canBothBe_36 rfl (lv_at hl 0 rfl) ?_
      refine rg_X5_21 C Z dX5_canBothBe_37 ?_
      refine lv_iload_n hx hb dX5_canBothBe_40 rfl (lv_at hl 2 rfl) ?_
      obtain ⟨v16, hv16, h⟩ := ob h
      refine g_iald C Z iaC25 hv16 dX5_canBothBe_41 ?_
      refine lv_isub hx hb dX5_canBothBe_42 ?_
      refine g_abs_0f7a4 C hl wM_X5_82 (by decide) (rest := []) (Nat.le_of_ble_eq_true rfl) dX5_canBothBe_43 ?_
      refine lv_aload_n hx hb dX5_canBothBe_46 rfl (lv_at hl 0 rfl) ?_
      refine rg_X5_24 C Z dX5_canBothBe_47 ?_
      refine lv_iload_n hx hb dX5_canBothBe_50 rfl (lv_at hl 1 rfl) ?_
      obtain ⟨v17, hv17, h⟩ := ob h
      refine g_iald C Z iaC26 hv17 dX5_canBothBe_51 ?_
      refine lv_aload_n hx hb dX5_canBothBe_52 rfl (lv_at hl 0 rfl) ?_
      refine rg_X5_24 C Z dX5_canBothBe_53 ?_
      refine lv_iload_n hx hb dX5_canBothBe_56 rfl (lv_at hl 2 rfl) ?_
      obtain ⟨v18, hv18, h⟩ := ob h
      refine g_iald C Z iaC26 hv18 dX5_canBothBe_57 ?_
      refine lv_isub hx hb dX5_canBothBe_58 ?_
      refine g_abs_0f7a4 C hl wM_X5_82 (by decide) (rest := [.int (f_J9_abs_0f7a4 (v15 - v16))]) (Nat.le_of_ble_eq_true rfl) dX5_canBothBe_59 ?_
      refine g_max_7cf53 C hl wM_X5_77 (by decide) (rest := []) (Nat.le_of_ble_eq_true rfl) dX5_canBothBe_62 ?_
      obtain ⟨v19, ev19, h⟩ := lb h
      refine tn_i ev19 ?_
      refine lv_istore (lv' := [(4, .int v19), (0, .ref (ad 3)), (1, .int x1), (2, .int x2), (3, .int x3)]) hx hb dX5_canBothBe_65 hl (by decide) rfl (fun ls hl => ?_)
      refine lv_iload hx hb dX5_canBothBe_67 (lv_at hl 0 rfl) ?_
      refine lv_iload_n hx hb dX5_canBothBe_69 rfl (lv_at hl 4 rfl) ?_
      refine lv_aload_n hx hb dX5_canBothBe_70 rfl (lv_at hl 1 rfl) ?_
      refine rg_X5_18 C Z dX5_canBothBe_71 ?_
      refine lv_iload_n hx hb dX5_canBothBe_74 rfl (lv_at hl 2 rfl) ?_
      obtain ⟨v20, hv20, h⟩ := ob h
      refine g_iald C Z iaC24 hv20 dX5_canBothBe_75 ?_
      refine lv_aload_n hx hb dX5_canBothBe_76 rfl (lv_at hl 1 rfl) ?_
      refine rg_X5_18 C Z dX5_canBothBe_77 ?_
      refine lv_iload_n hx hb dX5_canBothBe_80 rfl (lv_at hl 3 rfl) ?_
      obtain ⟨v21, hv21, h⟩ := ob h
      refine g_iald C Z iaC24 hv21 dX5_canBothBe_81 ?_
      refine lv_isub hx hb dX5_canBothBe_82 ?_
      refine g_abs_0f7a4 C hl wM_X5_82 (by decide) (rest := [.int x3, .int v19]) (Nat.le_of_ble_eq_true rfl) dX5_canBothBe_83 ?_
      refine lv_imul hx hb dX5_canBothBe_86 ?_
      obtain ⟨v22, ev22, h⟩ := lb h
      have hj : W p l e r_X5_canBothBe s m args below meth c H locs 0 0 Q (F0 m 95 ls [.int v22]) := by
        obtain rfl := Option.some.inj h
        exact hR _ _ _ _ _ Z dX5_canBothBe_95 (nar_b _)
      refine lv_icmp_gt (tgt := 94) hx hb dX5_canBothBe_87 (by decide) (fun c87 => ?_) (fun c87 => ?_)
      · rw [if_pos c87] at ev22
        refine lv_iconst (v := 0) hx hb dX5_canBothBe_94 (by decide) ?_
        exact tn_i ev22 hj
      · rw [if_neg c87] at ev22
        refine lv_iconst (v := 1) hx hb dX5_canBothBe_90 (by decide) ?_
        refine lv_goto (tgt := 95) hx hb dX5_canBothBe_91 (by decide) ?_
        exact tn_i ev22 hj
    · have h := ip h c25
      refine lv_iconst (v := 0) hx hb dX5_canBothBe_28 (by decide) ?_
      obtain rfl := Option.some.inj h
      exact hR _ _ _ _ _ Z dX5_canBothBe_29 rfl
theorem k_X5_canBothBe {l : Launch} {kc : Nat → ClassId} {ad : Nat → Nat} {D : va_G} {adK adV : Nat → Nat} {x1 : Int32} {x2 : Int32} {x3 : Int32} {σ : St} {R : Int32} (h : f_X5_canBothBe x1 x2 x3 σ = some R) : KC (eC adK adV) tC kc ad D l yX5_canBothBe (.code yX5_canBothBe cX5_canBothBe 5 (some .boolean)) r_X5_canBothBe [.ref (ad 3), .int x1, .int x2, .int x3] (some (.int R)) σ σ := by
  refine g_enter (by decide) (Nat.le_of_ble_eq_true rfl) ?_
  intro p e s m args below meth c A hA C hr hlocks Z ls hl
  have hl : lv_has ls 5 [(0, .ref (ad 3)), (1, .int x1), (2, .int x2), (3, .int x3)] := hl
  exact w_X5_canBothBe_0 C (g_RTi C.1.1 C.1.2.1 hr hlocks hA)  Z hl h
def r_X5_measure : Room := { frames := 2, cells := 0, slots := 0, locals := 49 }
set_option maxRecDepth 20000 in
theorem w_X5_measure_70 {p : Program} {l : Launch} {e : Env} {s : State} {m : MethodId} {args : Array Value} {below : List Frame} {meth : Method} {c : Code} {Q : State → Prop} {D : va_G} {kc : Nat → ClassId} {ad : Nat → Nat} {A : Nat → Prop} {adK adV : Nat → Nat} (C : Cx (eC adK adV) p s m args c cX5_measure 7 RX5 D kc A) {R : Int32 × St} {x1 : Int32} {x2 : Int32} {x3 : Int32} {x4 : Int32} {x5 : Int32} {x6 : Int32} {σ : St} (hR : RTi 0 0 p l e r_X5_measure s m args below meth c cX5_measure tC kc ad D A Q .int R.1 R.2) {k21 : Int32 → Int32 → Option (Int32 × St)} {k7 : Int32 → Int32 → St → Option (Int32 × St)} (hk21 : ∀ (x5 : Int32) (x6 : Int32) (H : Heap) (locs : List Loc) (ls : Array Slot), Dy tC kc ad D A s.heap σ H locs → lv_has ls 7 [(0, .ref (ad 3)), (1, .int x1), (2, .int x2), (3, .int x3), (4, .int x4), (5, .int x5), (6, .int x6)] → k21 x5 x6 = some R → W p l e r_X5_measure s m args below meth c H locs 0 0 Q (F0 m 21 ls [])) (hk7 : ∀ (x3 : Int32) (x4 : Int32) (σ : St) (H : Heap) (locs : List Loc) (ls : Array Slot), Dy tC kc ad D A s.heap σ H locs → lv_has ls 7 [(0, .ref (ad 3)), (1, .int x1), (2, .int x2), (3, .int x3), (4, .int x4)] → k7 x3 x4 σ = some R → W p l e r_X5_measure s m args below meth c H locs 0 0 Q (F0 m 7 ls [])) {H : Heap} {locs : List Loc} {ls : Array Slot} (Z : Dy tC kc ad D A s.heap σ H locs) (hl : lv_has ls 7 [(0, .ref (ad 3)), (1, .int x1), (2, .int x2), (3, .int x3), (4, .int x4), (5, .int x5), (6, .int x6)]) (h : f_X5_measure_70 x1 x2 x3 x4 x5 x6 σ k21 k7 = some R) : W p l e r_X5_measure s m args below meth c H locs 0 0 Q (F0 m 70 ls []) := by
  have hx := C.1.1
  have hb := C.1.2.1
  unfold f_X5_measure_70 at h
  obtain ⟨v32, ev32, h⟩ := lb h
  refine lv_iinc (v := v32) (lv' := [(6, .int v32), (0, .ref (ad 3)), (1, .int x1), (2, .int x2), (3, .int x3), (4, .int x4), (5, .int x5)]) hx hb dX5_measure_70 hl (k := 6) rfl (by rw [ev32]; rfl) (by decide) rfl (fun ls hl => ?_)
  refine lv_goto (tgt := 21) hx hb dX5_measure_73 (by decide) ?_
  exact hk21 _ _ _ _ _ Z (lv_sub hl [1, 2, 3, 4, 5, 6, 0] rfl) h
set_option maxRecDepth 20000 in
theorem w_X5_measure_76 {p : Program} {l : Launch} {e : Env} {s : State} {m : MethodId} {args : Array Value} {below : List Frame} {meth : Method} {c : Code} {Q : State → Prop} {D : va_G} {kc : Nat → ClassId} {ad : Nat → Nat} {A : Nat → Prop} {adK adV : Nat → Nat} (C : Cx (eC adK adV) p s m args c cX5_measure 7 RX5 D kc A) {R : Int32 × St} {x1 : Int32} {x2 : Int32} {x3 : Int32} {x4 : Int32} {x5 : Int32} {σ : St} (hR : RTi 0 0 p l e r_X5_measure s m args below meth c cX5_measure tC kc ad D A Q .int R.1 R.2) {k7 : Int32 → Int32 → St → Option (Int32 × St)} (hk7 : ∀ (x3 : Int32) (x4 : Int32) (σ : St) (H : Heap) (locs : List Loc) (ls : Array Slot), Dy tC kc ad D A s.heap σ H locs → lv_has ls 7 [(0, .ref (ad 3)), (1, .int x1), (2, .int x2), (3, .int x3), (4, .int x4)] → k7 x3 x4 σ = some R → W p l e r_X5_measure s m args below meth c H locs 0 0 Q (F0 m 7 ls [])) {H : Heap} {locs : List Loc} {ls : Array Slot} (Z : Dy tC kc ad D A s.heap σ H locs) (hl : lv_has ls 7 [(0, .ref (ad 3)), (1, .int x1), (2, .int x2), (3, .int x3), (4, .int x4), (5, .int x5)]) (h : f_X5_measure_76 x1 x2 x3 x4 x5 σ k7 = some R) : W p l e r_X5_measure s m args below meth c H locs 0 0 Q (F0 m 76 ls []) := by
  have hx := C.1.1
  have hb := C.1.2.1
  unfold f_X5_measure_76 at h
  refine lv_aload_n hx hb dX5_measure_76 rfl (lv_at hl 0 rfl) ?_
  refine rg_X5_36 C Z dX5_measure_77 ?_
  refine lv_iload hx hb dX5_measure_80 (lv_at hl 4 rfl) ?_
  refine lv_iload hx hb dX5_measure_82 (lv_at hl 5 rfl) ?_
  refine lv_iconst (v := 1) hx hb dX5_measure_84 (by decide) ?_
  refine lv_iadd hx hb dX5_measure_85 ?_
  obtain ⟨σ33, hσ33, h⟩ := ob h
  refine g_iast C Z iaC30 hσ33 dX5_measure_86 (fun H locs Z => ?_)
  refine lv_iload_n hx hb dX5_measure_87 rfl (lv_at hl 3 rfl) ?_
  refine lv_aload_n hx hb dX5_measure_88 rfl (lv_at hl 0 rfl) ?_
  refine rg_X5_36 C Z dX5_measure_89 ?_
  refine lv_iload hx hb dX5_measure_92 (lv_at hl 4 rfl) ?_
  obtain ⟨v34, hv34, h⟩ := ob h
  refine g_iald C Z iaC30 hv34 dX5_measure_94 ?_
  refine g_max_7cf53 C hl wM_X5_77 (by decide) (rest := []) (Nat.le_of_ble_eq_true rfl) dX5_measure_95 ?_
  obtain ⟨v35, ev35, h⟩ := lb h
  refine tn_i ev35 ?_
  refine lv_istore_n (lv' := [(3, .int v35), (0, .ref (ad 3)), (1, .int x1), (2, .int x2), (4, .int x4), (5, .int x5)]) hx hb dX5_measure_98 rfl hl (by decide) rfl (fun ls hl => ?_)
  obtain ⟨v36, ev36, h⟩ := lb h
  refine lv_iinc (v := v36) (lv' := [(4, .int v36), (3, .int v35), (0, .ref (ad 3)), (1, .int x1), (2, .int x2), (5, .int x5)]) hx hb dX5_measure_99 hl (k := 4) rfl (by rw [ev36]; rfl) (by decide) rfl (fun ls hl => ?_)
  refine lv_goto (tgt := 7) hx hb dX5_measure_102 (by decide) ?_
  exact hk7 _ _ _ _ _ _ Z (lv_sub hl [2, 3, 4, 1, 0] rfl) h
set_option maxRecDepth 20000 in
theorem w_X5_measure_21 {p : Program} {l : Launch} {e : Env} {s : State} {m : MethodId} {args : Array Value} {below : List Frame} {meth : Method} {c : Code} {Q : State → Prop} {D : va_G} {kc : Nat → ClassId} {ad : Nat → Nat} {A : Nat → Prop} {adK adV : Nat → Nat} (C : Cx (eC adK adV) p s m args c cX5_measure 7 RX5 D kc A) {R : Int32 × St} {x1 : Int32} {x2 : Int32} {x3 : Int32} {x4 : Int32} {σ : St} (hR : RTi 0 0 p l e r_X5_measure s m args below meth c cX5_measure tC kc ad D A Q .int R.1 R.2) {k7 : Int32 → Int32 → St → Option (Int32 × St)} (hk7 : ∀ (x3 : Int32) (x4 : Int32) (σ : St) (H : Heap) (locs : List Loc) (ls : Array Slot), Dy tC kc ad D A s.heap σ H locs → lv_has ls 7 [(0, .ref (ad 3)), (1, .int x1), (2, .int x2), (3, .int x3), (4, .int x4)] → k7 x3 x4 σ = some R → W p l e r_X5_measure s m args below meth c H locs 0 0 Q (F0 m 7 ls [])) : ∀ (n : Nat) (x5 : Int32) (x6 : Int32) (H : Heap) (locs : List Loc) (ls : Array Slot), Dy tC kc ad D A s.heap σ H locs → lv_has ls 7 [(0, .ref (ad 3)), (1, .int x1), (2, .int x2), (3, .int x3), (4, .int x4), (5, .int x5), (6, .int x6)] → f_X5_measure_21 x1 x2 x3 x4 σ k7 n x5 x6 = some R → W p l e r_X5_measure s m args below meth c H locs 0 0 Q (F0 m 21 ls []) := by
  have hx := C.1.1
  have hb := C.1.2.1
  intro n
  induction n with
  | zero =>
    intro x5 x6 H locs ls Z hl h
    exact absurd (show none = some R from h) (by simp)
  | succ n ih =>
    intro x5 x6 H locs ls Z hl h
    rw [f_X5_measure_21] at h
    refine lv_iload hx hb dX5_measure_21 (lv_at hl 6 rfl) ?_
    refine lv_iload_n hx hb dX5_measure_23 rfl (lv_at hl 1 rfl) ?_
    refine lv_icmp_ge (tgt := 76) hx hb dX5_measure_24 (by decide) (fun c24 => ?_) (fun c24 => ?_)
    · have h := ip h c24
      exact w_X5_measure_76 C hR hk7 Z (lv_sub hl [0, 1, 2, 3, 4, 5] rfl) h
    · have h := im h c24
      refine lv_aload_n hx hb dX5_measure_27 rfl (lv_at hl 0 rfl) ?_
      refine rg_X5_36 C Z dX5_measure_28 ?_
      refine lv_iload hx hb dX5_measure_31 (lv_at hl 6 rfl) ?_
      obtain ⟨v27, hv27, h⟩ := ob h
      refine g_iald C Z iaC30 hv27 dX5_measure_33 ?_
      refine lv_iload hx hb dX5_measure_34 (lv_at hl 5 rfl) ?_
      refine lv_icmp_le (tgt := 70) hx hb dX5_measure_36 (by decide) (fun c36 => ?_) (fun c36 => ?_)
      · have h := ip h c36
        exact w_X5_measure_70 C hR ih hk7 Z (lv_sub hl [0, 1, 2, 3, 4, 5, 6] rfl) h
      · have h := im h c36
        refine lv_aload_n hx hb dX5_measure_39 rfl (lv_at hl 0 rfl) ?_
        refine lv_aload_n hx hb dX5_measure_40 rfl (lv_at hl 0 rfl) ?_
        refine rg_X5_33 C Z dX5_measure_41 ?_
        refine lv_iload hx hb dX5_measure_44 (lv_at hl 4 rfl) ?_
        obtain ⟨v28, hv28, h⟩ := ob h
        refine g_iald C Z iaC29 hv28 dX5_measure_46 ?_
        refine lv_aload_n hx hb dX5_measure_47 rfl (lv_at hl 0 rfl) ?_
        refine rg_X5_33 C Z dX5_measure_48 ?_
        refine lv_iload hx hb dX5_measure_51 (lv_at hl 6 rfl) ?_
        obtain ⟨v29, hv29, h⟩ := ob h
        refine g_iald C Z iaC29 hv29 dX5_measure_53 ?_
        refine lv_iload_n hx hb dX5_measure_54 rfl (lv_at hl 2 rfl) ?_
        obtain ⟨v30, hv30, h⟩ := ob h
        refine g_callVi (eC_ok adK adV) C Z (k_X5_canBothBe hv30) lk_X5_74 (by decide) rfl rfl hl (by decide) rfl (Nat.le_of_ble_eq_true rfl) (rest := []) rfl dX5_measure_55 (fun H locs Z => ?_)
        refine lv_if_eq (tgt := 70) hx hb dX5_measure_58 (by decide) (fun c58 => ?_) (fun c58 => ?_)
        · have h := ip h c58
          exact w_X5_measure_70 C hR ih hk7 Z (lv_sub hl [0, 1, 2, 3, 4, 5, 6] rfl) h
        · have h := im h c58
          refine lv_aload_n hx hb dX5_measure_61 rfl (lv_at hl 0 rfl) ?_
          refine rg_X5_36 C Z dX5_measure_62 ?_
          refine lv_iload hx hb dX5_measure_65 (lv_at hl 6 rfl) ?_
          obtain ⟨v31, hv31, h⟩ := ob h
          refine g_iald C Z iaC30 hv31 dX5_measure_67 ?_
          refine lv_istore (lv' := [(5, .int v31), (0, .ref (ad 3)), (1, .int x1), (2, .int x2), (3, .int x3), (4, .int x4), (6, .int x6)]) hx hb dX5_measure_68 hl (by decide) rfl (fun ls hl => ?_)
          exact w_X5_measure_70 C hR ih hk7 Z (lv_sub hl [1, 2, 3, 4, 5, 0, 6] rfl) h
set_option maxRecDepth 20000 in
theorem w_X5_measure_7 {p : Program} {l : Launch} {e : Env} {s : State} {m : MethodId} {args : Array Value} {below : List Frame} {meth : Method} {c : Code} {Q : State → Prop} {D : va_G} {kc : Nat → ClassId} {ad : Nat → Nat} {A : Nat → Prop} {adK adV : Nat → Nat} (C : Cx (eC adK adV) p s m args c cX5_measure 7 RX5 D kc A) {R : Int32 × St} {x1 : Int32} {x2 : Int32} (hR : RTi 0 0 p l e r_X5_measure s m args below meth c cX5_measure tC kc ad D A Q .int R.1 R.2) : ∀ (n : Nat) (x3 : Int32) (x4 : Int32) (σ : St) (H : Heap) (locs : List Loc) (ls : Array Slot), Dy tC kc ad D A s.heap σ H locs → lv_has ls 7 [(0, .ref (ad 3)), (1, .int x1), (2, .int x2), (3, .int x3), (4, .int x4)] → f_X5_measure_7 x1 x2 n x3 x4 σ = some R → W p l e r_X5_measure s m args below meth c H locs 0 0 Q (F0 m 7 ls []) := by
  have hx := C.1.1
  have hb := C.1.2.1
  intro n
  induction n with
  | zero =>
    intro x3 x4 σ H locs ls Z hl h
    exact absurd (show none = some R from h) (by simp)
  | succ n ih =>
    intro x3 x4 σ H locs ls Z hl h
    rw [f_X5_measure_7] at h
    refine lv_iload hx hb dX5_measure_7 (lv_at hl 4 rfl) ?_
    refine lv_if_lt (tgt := 105) hx hb dX5_measure_9 (by decide) (fun c9 => ?_) (fun c9 => ?_)
    · have h := ip h c9
      refine lv_iload_n hx hb dX5_measure_105 rfl (lv_at hl 3 rfl) ?_
      obtain rfl := Option.some.inj h
      exact hR _ _ _ _ _ Z dX5_measure_106 rfl
    · have h := im h c9
      refine lv_iconst (v := 0) hx hb dX5_measure_12 (by decide) ?_
      refine lv_istore (lv' := [(5, .int 0), (0, .ref (ad 3)), (1, .int x1), (2, .int x2), (3, .int x3), (4, .int x4)]) hx hb dX5_measure_13 hl (by decide) rfl (fun ls hl => ?_)
      refine lv_iload hx hb dX5_measure_15 (lv_at hl 5 rfl) ?_
      refine lv_iconst (v := 1) hx hb dX5_measure_17 (by decide) ?_
      refine lv_iadd hx hb dX5_measure_18 ?_
      obtain ⟨v26, ev26, h⟩ := lb h
      refine tn_i ev26 ?_
      refine lv_istore (lv' := [(6, .int v26), (5, .int 0), (0, .ref (ad 3)), (1, .int x1), (2, .int x2), (3, .int x3), (4, .int x4)]) hx hb dX5_measure_19 hl (by decide) rfl (fun ls hl => ?_)
      exact w_X5_measure_21 C hR ih _ _ _ _ _ _ Z (lv_sub hl [2, 3, 4, 5, 6, 1, 0] rfl) h
set_option maxRecDepth 20000 in
theorem w_X5_measure_0 {p : Program} {l : Launch} {e : Env} {s : State} {m : MethodId} {args : Array Value} {below : List Frame} {meth : Method} {c : Code} {Q : State → Prop} {D : va_G} {kc : Nat → ClassId} {ad : Nat → Nat} {A : Nat → Prop} {adK adV : Nat → Nat} (C : Cx (eC adK adV) p s m args c cX5_measure 7 RX5 D kc A) {R : Int32 × St} {x1 : Int32} {x2 : Int32} {σ : St} (hR : RTi 0 0 p l e r_X5_measure s m args below meth c cX5_measure tC kc ad D A Q .int R.1 R.2) {H : Heap} {locs : List Loc} {ls : Array Slot} (Z : Dy tC kc ad D A s.heap σ H locs) (hl : lv_has ls 7 [(0, .ref (ad 3)), (1, .int x1), (2, .int x2)]) (h : f_X5_measure x1 x2 σ = some R) : W p l e r_X5_measure s m args below meth c H locs 0 0 Q (F0 m 0 ls []) := by
  have hx := C.1.1
  have hb := C.1.2.1
  unfold f_X5_measure at h
  refine lv_iconst (v := 0) hx hb dX5_measure_0 (by decide) ?_
  refine lv_istore_n (lv' := [(3, .int 0), (0, .ref (ad 3)), (1, .int x1), (2, .int x2)]) hx hb dX5_measure_1 rfl hl (by decide) rfl (fun ls hl => ?_)
  refine lv_iload_n hx hb dX5_measure_2 rfl (lv_at hl 2 rfl) ?_
  refine lv_iconst (v := 1) hx hb dX5_measure_3 (by decide) ?_
  refine lv_isub hx hb dX5_measure_4 ?_
  obtain ⟨v25, ev25, h⟩ := lb h
  refine tn_i ev25 ?_
  refine lv_istore (lv' := [(4, .int v25), (3, .int 0), (0, .ref (ad 3)), (1, .int x1), (2, .int x2)]) hx hb dX5_measure_5 hl (by decide) rfl (fun ls hl => ?_)
  exact w_X5_measure_7 C hR _ _ _ _ _ _ _ Z (lv_sub hl [2, 3, 4, 1, 0] rfl) h
theorem k_X5_measure {l : Launch} {kc : Nat → ClassId} {ad : Nat → Nat} {D : va_G} {adK adV : Nat → Nat} {x1 : Int32} {x2 : Int32} {σ : St} {R : Int32 × St} (h : f_X5_measure x1 x2 σ = some R) : KC (eC adK adV) tC kc ad D l yX5_measure (.code yX5_measure cX5_measure 7 (some .int)) r_X5_measure [.ref (ad 3), .int x1, .int x2] (some (.int R.1)) σ R.2 := by
  refine g_enter (by decide) (Nat.le_of_ble_eq_true rfl) ?_
  intro p e s m args below meth c A hA C hr hlocks Z ls hl
  have hl : lv_has ls 7 [(0, .ref (ad 3)), (1, .int x1), (2, .int x2)] := hl
  exact w_X5_measure_0 C (g_RTi C.1.1 C.1.2.1 hr hlocks hA)  Z hl h
def r_X5_follow : Room := { frames := 2, cells := 0, slots := 0, locals := 49 }
set_option maxRecDepth 20000 in
theorem w_X5_follow_97 {p : Program} {l : Launch} {e : Env} {s : State} {m : MethodId} {args : Array Value} {below : List Frame} {meth : Method} {c : Code} {Q : State → Prop} {D : va_G} {kc : Nat → ClassId} {ad : Nat → Nat} {A : Nat → Prop} {adK adV : Nat → Nat} (C : Cx (eC adK adV) p s m args c cX5_follow 5 RX5 D kc A) {R : St} {x1 : Int32} {x2 : Int32} {x3 : Int32} {x4 : Int32} {σ : St} (hR : RTv 0 0 p l e r_X5_follow s m args below meth c cX5_follow tC kc ad D A Q R) {k8 : Int32 → St → Option (St)} (hk8 : ∀ (x4 : Int32) (σ : St) (H : Heap) (locs : List Loc) (ls : Array Slot), Dy tC kc ad D A s.heap σ H locs → lv_has ls 5 [(0, .ref (ad 3)), (1, .int x1), (2, .int x2), (3, .int x3), (4, .int x4)] → k8 x4 σ = some R → W p l e r_X5_follow s m args below meth c H locs 0 0 Q (F0 m 8 ls [])) {H : Heap} {locs : List Loc} {ls : Array Slot} (Z : Dy tC kc ad D A s.heap σ H locs) (hl : lv_has ls 5 [(0, .ref (ad 3)), (1, .int x1), (2, .int x2), (3, .int x3), (4, .int x4)]) (h : f_X5_follow_97 x1 x2 x3 x4 σ k8 = some R) : W p l e r_X5_follow s m args below meth c H locs 0 0 Q (F0 m 97 ls []) := by
  have hx := C.1.1
  have hb := C.1.2.1
  unfold f_X5_follow_97 at h
  obtain ⟨v27, ev27, h⟩ := lb h
  refine lv_iinc (v := v27) (lv' := [(4, .int v27), (0, .ref (ad 3)), (1, .int x1), (2, .int x2), (3, .int x3)]) hx hb dX5_follow_97 hl (k := 4) rfl (by rw [ev27]; rfl) (by decide) rfl (fun ls hl => ?_)
  refine lv_goto (tgt := 8) hx hb dX5_follow_100 (by decide) ?_
  exact hk8 _ _ _ _ _ Z (lv_sub hl [1, 2, 3, 4, 0] rfl) h
set_option maxRecDepth 20000 in
theorem w_X5_follow_71 {p : Program} {l : Launch} {e : Env} {s : State} {m : MethodId} {args : Array Value} {below : List Frame} {meth : Method} {c : Code} {Q : State → Prop} {D : va_G} {kc : Nat → ClassId} {ad : Nat → Nat} {A : Nat → Prop} {adK adV : Nat → Nat} (C : Cx (eC adK adV) p s m args c cX5_follow 5 RX5 D kc A) {R : St} {x1 : Int32} {x2 : Int32} {x3 : Int32} {x4 : Int32} {σ : St} (hR : RTv 0 0 p l e r_X5_follow s m args below meth c cX5_follow tC kc ad D A Q R) {k8 : Int32 → St → Option (St)} (hk8 : ∀ (x4 : Int32) (σ : St) (H : Heap) (locs : List Loc) (ls : Array Slot), Dy tC kc ad D A s.heap σ H locs → lv_has ls 5 [(0, .ref (ad 3)), (1, .int x1), (2, .int x2), (3, .int x3), (4, .int x4)] → k8 x4 σ = some R → W p l e r_X5_follow s m args below meth c H locs 0 0 Q (F0 m 8 ls [])) {H : Heap} {locs : List Loc} {ls : Array Slot} (Z : Dy tC kc ad D A s.heap σ H locs) (hl : lv_has ls 5 [(0, .ref (ad 3)), (1, .int x1), (2, .int x2), (3, .int x3), (4, .int x4)]) (h : f_X5_follow_71 x1 x2 x3 x4 σ k8 = some R) : W p l e r_X5_follow s m args below meth c H locs 0 0 Q (F0 m 71 ls []) := by
  have hx := C.1.1
  have hb := C.1.2.1
  unfold f_X5_follow_71 at h
  refine lv_aload_n hx hb dX5_follow_71 rfl (lv_at hl 0 rfl) ?_
  refine rg_X5_39 C Z dX5_follow_72 ?_
  refine lv_aload_n hx hb dX5_follow_75 rfl (lv_at hl 0 rfl) ?_
  refine rg_X5_71 C Z dX5_follow_76 ?_
  refine lv_aload_n hx hb dX5_follow_79 rfl (lv_at hl 0 rfl) ?_
  refine rg_X5_33 C Z dX5_follow_80 ?_
  refine lv_iload hx hb dX5_follow_83 (lv_at hl 4 rfl) ?_
  obtain ⟨v24, hv24, h⟩ := ob h
  refine g_iald C Z iaC29 hv24 dX5_follow_85 ?_
  obtain ⟨σ25, hσ25, h⟩ := ob h
  refine g_iast C Z iaC31 hσ25 dX5_follow_86 (fun H locs Z => ?_)
  refine lv_aload_n hx hb dX5_follow_87 rfl (lv_at hl 0 rfl) ?_
  refine lv_dup hx hb dX5_follow_88 rfl ?_
  refine rg_X5_71 C Z dX5_follow_89 ?_
  refine lv_iconst (v := 1) hx hb dX5_follow_92 (by decide) ?_
  refine lv_iadd hx hb dX5_follow_93 ?_
  obtain ⟨σ26, eσ26, h⟩ := lb h
  refine rp_X5_71 C Z eσ26 dX5_follow_94 (fun H locs Z => ?_)
  exact w_X5_follow_97 C hR hk8 Z (lv_sub hl [0, 1, 2, 3, 4] rfl) h
set_option maxRecDepth 20000 in
theorem w_X5_follow_8 {p : Program} {l : Launch} {e : Env} {s : State} {m : MethodId} {args : Array Value} {below : List Frame} {meth : Method} {c : Code} {Q : State → Prop} {D : va_G} {kc : Nat → ClassId} {ad : Nat → Nat} {A : Nat → Prop} {adK adV : Nat → Nat} (C : Cx (eC adK adV) p s m args c cX5_follow 5 RX5 D kc A) {R : St} {x1 : Int32} {x2 : Int32} {x3 : Int32} (hR : RTv 0 0 p l e r_X5_follow s m args below meth c cX5_follow tC kc ad D A Q R) : ∀ (n : Nat) (x4 : Int32) (σ : St) (H : Heap) (locs : List Loc) (ls : Array Slot), Dy tC kc ad D A s.heap σ H locs → lv_has ls 5 [(0, .ref (ad 3)), (1, .int x1), (2, .int x2), (3, .int x3), (4, .int x4)] → f_X5_follow_8 x1 x2 x3 n x4 σ = some R → W p l e r_X5_follow s m args below meth c H locs 0 0 Q (F0 m 8 ls []) := by
  have hx := C.1.1
  have hb := C.1.2.1
  intro n
  induction n with
  | zero =>
    intro x4 σ H locs ls Z hl h
    exact absurd (show none = some R from h) (by simp)
  | succ n ih =>
    intro x4 σ H locs ls Z hl h
    rw [f_X5_follow_8] at h
    refine lv_iload hx hb dX5_follow_8 (lv_at hl 4 rfl) ?_
    refine lv_iload_n hx hb dX5_follow_10 rfl (lv_at hl 1 rfl) ?_
    refine lv_icmp_ge (tgt := 103) hx hb dX5_follow_11 (by decide) (fun c11 => ?_) (fun c11 => ?_)
    · have h := ip h c11
      obtain rfl := Option.some.inj h
      exact hR _ _ _ _ Z dX5_follow_103
    · have h := im h c11
      refine lv_aload_n hx hb dX5_follow_14 rfl (lv_at hl 0 rfl) ?_
      refine rg_X5_71 C Z dX5_follow_15 ?_
      refine lv_iload_n hx hb dX5_follow_18 rfl (lv_at hl 3 rfl) ?_
      refine lv_icmp_ge (tgt := 103) hx hb dX5_follow_19 (by decide) (fun c19 => ?_) (fun c19 => ?_)
      · have h := ip h c19
        obtain rfl := Option.some.inj h
        exact hR _ _ _ _ Z dX5_follow_103
      · have h := im h c19
        refine lv_aload_n hx hb dX5_follow_22 rfl (lv_at hl 0 rfl) ?_
        refine rg_X5_36 C Z dX5_follow_23 ?_
        refine lv_iload hx hb dX5_follow_26 (lv_at hl 4 rfl) ?_
        obtain ⟨v20, hv20, h⟩ := ob h
        refine g_iald C Z iaC30 hv20 dX5_follow_28 ?_
        refine lv_iload_n hx hb dX5_follow_29 rfl (lv_at hl 3 rfl) ?_
        refine lv_aload_n hx hb dX5_follow_30 rfl (lv_at hl 0 rfl) ?_
        refine rg_X5_71 C Z dX5_follow_31 ?_
        refine lv_isub hx hb dX5_follow_34 ?_
        refine lv_icmp_ne (tgt := 97) hx hb dX5_follow_35 (by decide) (fun c35 => ?_) (fun c35 => ?_)
        · have h := im h c35
          exact w_X5_follow_97 C hR ih Z (lv_sub hl [0, 1, 2, 3, 4] rfl) h
        · have h := ip h c35
          refine lv_aload_n hx hb dX5_follow_38 rfl (lv_at hl 0 rfl) ?_
          refine rg_X5_71 C Z dX5_follow_39 ?_
          refine lv_if_eq (tgt := 71) hx hb dX5_follow_42 (by decide) (fun c42 => ?_) (fun c42 => ?_)
          · have h := ip h c42
            exact w_X5_follow_71 C hR ih Z (lv_sub hl [0, 1, 2, 3, 4] rfl) h
          · have h := im h c42
            refine lv_aload_n hx hb dX5_follow_45 rfl (lv_at hl 0 rfl) ?_
            refine lv_aload_n hx hb dX5_follow_46 rfl (lv_at hl 0 rfl) ?_
            refine rg_X5_39 C Z dX5_follow_47 ?_
            refine lv_aload_n hx hb dX5_follow_50 rfl (lv_at hl 0 rfl) ?_
            refine rg_X5_71 C Z dX5_follow_51 ?_
            refine lv_iconst (v := 1) hx hb dX5_follow_54 (by decide) ?_
            refine lv_isub hx hb dX5_follow_55 ?_
            obtain ⟨v21, hv21, h⟩ := ob h
            refine g_iald C Z iaC31 hv21 dX5_follow_56 ?_
            refine lv_aload_n hx hb dX5_follow_57 rfl (lv_at hl 0 rfl) ?_
            refine rg_X5_33 C Z dX5_follow_58 ?_
            refine lv_iload hx hb dX5_follow_61 (lv_at hl 4 rfl) ?_
            obtain ⟨v22, hv22, h⟩ := ob h
            refine g_iald C Z iaC29 hv22 dX5_follow_63 ?_
            refine lv_iload_n hx hb dX5_follow_64 rfl (lv_at hl 2 rfl) ?_
            obtain ⟨v23, hv23, h⟩ := ob h
            refine g_callVi (eC_ok adK adV) C Z (k_X5_canBothBe hv23) lk_X5_74 (by decide) rfl rfl hl (by decide) rfl (Nat.le_of_ble_eq_true rfl) (rest := []) rfl dX5_follow_65 (fun H locs Z => ?_)
            refine lv_if_eq (tgt := 97) hx hb dX5_follow_68 (by decide) (fun c68 => ?_) (fun c68 => ?_)
            · have h := ip h c68
              exact w_X5_follow_97 C hR ih Z (lv_sub hl [0, 1, 2, 3, 4] rfl) h
            · have h := im h c68
              exact w_X5_follow_71 C hR ih Z (lv_sub hl [0, 1, 2, 3, 4] rfl) h
set_option maxRecDepth 20000 in
theorem w_X5_follow_0 {p : Program} {l : Launch} {e : Env} {s : State} {m : MethodId} {args : Array Value} {below : List Frame} {meth : Method} {c : Code} {Q : State → Prop} {D : va_G} {kc : Nat → ClassId} {ad : Nat → Nat} {A : Nat → Prop} {adK adV : Nat → Nat} (C : Cx (eC adK adV) p s m args c cX5_follow 5 RX5 D kc A) {R : St} {x1 : Int32} {x2 : Int32} {x3 : Int32} {σ : St} (hR : RTv 0 0 p l e r_X5_follow s m args below meth c cX5_follow tC kc ad D A Q R) {H : Heap} {locs : List Loc} {ls : Array Slot} (Z : Dy tC kc ad D A s.heap σ H locs) (hl : lv_has ls 5 [(0, .ref (ad 3)), (1, .int x1), (2, .int x2), (3, .int x3)]) (h : f_X5_follow x1 x2 x3 σ = some R) : W p l e r_X5_follow s m args below meth c H locs 0 0 Q (F0 m 0 ls []) := by
  have hx := C.1.1
  have hb := C.1.2.1
  unfold f_X5_follow at h
  refine lv_aload_n hx hb dX5_follow_0 rfl (lv_at hl 0 rfl) ?_
  refine lv_iconst (v := 0) hx hb dX5_follow_1 (by decide) ?_
  obtain ⟨σ19, eσ19, h⟩ := lb h
  refine rp_X5_71 C Z eσ19 dX5_follow_2 (fun H locs Z => ?_)
  refine lv_iconst (v := 0) hx hb dX5_follow_5 (by decide) ?_
  refine lv_istore (lv' := [(4, .int 0), (0, .ref (ad 3)), (1, .int x1), (2, .int x2), (3, .int x3)]) hx hb dX5_follow_6 hl (by decide) rfl (fun ls hl => ?_)
  exact w_X5_follow_8 C hR _ _ _ _ _ _ Z (lv_sub hl [1, 2, 3, 4, 0] rfl) h
theorem k_X5_follow {l : Launch} {kc : Nat → ClassId} {ad : Nat → Nat} {D : va_G} {adK adV : Nat → Nat} {x1 : Int32} {x2 : Int32} {x3 : Int32} {σ : St} {R : St} (h : f_X5_follow x1 x2 x3 σ = some R) : KC (eC adK adV) tC kc ad D l yX5_follow (.code yX5_follow cX5_follow 5 none) r_X5_follow [.ref (ad 3), .int x1, .int x2, .int x3] none σ R := by
  refine g_enter (by decide) (Nat.le_of_ble_eq_true rfl) ?_
  intro p e s m args below meth c A hA C hr hlocks Z ls hl
  have hl : lv_has ls 5 [(0, .ref (ad 3)), (1, .int x1), (2, .int x2), (3, .int x3)] := hl
  exact w_X5_follow_0 C (g_RTv C.1.1 C.1.2.1 hr hlocks hA)  Z hl h
def r_X5_findChain : Room := { frames := 3, cells := 0, slots := 0, locals := 75 }
set_option maxRecDepth 20000 in
theorem w_X5_findChain_0 {p : Program} {l : Launch} {e : Env} {s : State} {m : MethodId} {args : Array Value} {below : List Frame} {meth : Method} {c : Code} {Q : State → Prop} {D : va_G} {kc : Nat → ClassId} {ad : Nat → Nat} {A : Nat → Prop} {adK adV : Nat → Nat} (C : Cx (eC adK adV) p s m args c cX5_findChain 6 RX5 D kc A) {R : Int32 × St} {x1 : Int32} {x2 : Int32} {x3 : Int32} {σ : St} (hR : RTi 0 0 p l e r_X5_findChain s m args below meth c cX5_findChain tC kc ad D A Q .int R.1 R.2) {H : Heap} {locs : List Loc} {ls : Array Slot} (Z : Dy tC kc ad D A s.heap σ H locs) (hl : lv_has ls 6 [(0, .ref (ad 3)), (1, .int x1), (2, .int x2), (3, .int x3)]) (h : f_X5_findChain x1 x2 x3 σ = some R) : W p l e r_X5_findChain s m args below meth c H locs 0 0 Q (F0 m 0 ls []) := by
  have hx := C.1.1
  have hb := C.1.2.1
  unfold f_X5_findChain at h
  refine lv_aload_n hx hb dX5_findChain_0 rfl (lv_at hl 0 rfl) ?_
  refine lv_iload_n hx hb dX5_findChain_1 rfl (lv_at hl 1 rfl) ?_
  refine lv_iload_n hx hb dX5_findChain_2 rfl (lv_at hl 3 rfl) ?_
  obtain ⟨u4, hu4, h⟩ := ob h
  refine g_callVi (eC_ok adK adV) C Z (k_X5_pick hu4) lk_X5_60 (by decide) rfl rfl hl (by decide) rfl (Nat.le_of_ble_eq_true rfl) (rest := []) rfl dX5_findChain_3 (fun H locs Z => ?_)
  refine lv_istore (lv' := [(4, .int u4.1), (0, .ref (ad 3)), (1, .int x1), (2, .int x2), (3, .int x3)]) hx hb dX5_findChain_6 hl (by decide) rfl (fun ls hl => ?_)
  refine lv_aload_n hx hb dX5_findChain_8 rfl (lv_at hl 1 rfl) ?_
  refine lv_iload hx hb dX5_findChain_9 (lv_at hl 0 rfl) ?_
  refine lv_iload_n hx hb dX5_findChain_11 rfl (lv_at hl 3 rfl) ?_
  obtain ⟨u5, hu5, h⟩ := ob h
  refine g_callVi (eC_ok adK adV) C Z (k_X5_measure hu5) lk_X5_64 (by decide) rfl rfl hl (by decide) rfl (Nat.le_of_ble_eq_true rfl) (rest := []) rfl dX5_findChain_12 (fun H locs Z => ?_)
  refine lv_istore (lv' := [(5, .int u5.1), (4, .int u4.1), (0, .ref (ad 3)), (1, .int x1), (2, .int x2), (3, .int x3)]) hx hb dX5_findChain_15 hl (by decide) rfl (fun ls hl => ?_)
  refine lv_aload_n hx hb dX5_findChain_17 rfl (lv_at hl 2 rfl) ?_
  refine lv_iload hx hb dX5_findChain_18 (lv_at hl 1 rfl) ?_
  refine lv_iload_n hx hb dX5_findChain_20 rfl (lv_at hl 4 rfl) ?_
  refine lv_iload hx hb dX5_findChain_21 (lv_at hl 0 rfl) ?_
  obtain ⟨σ6, hσ6, h⟩ := ob h
  refine g_callVv (eC_ok adK adV) C Z (k_X5_follow hσ6) lk_X5_67 (by decide) rfl rfl hl (by decide) rfl (Nat.le_of_ble_eq_true rfl) (rest := []) rfl dX5_findChain_23 (fun H locs Z => ?_)
  refine lv_aload_n hx hb dX5_findChain_26 rfl (lv_at hl 2 rfl) ?_
  refine rg_X5_71 C Z dX5_findChain_27 ?_
  obtain rfl := Option.some.inj h
  exact hR _ _ _ _ _ Z dX5_findChain_30 rfl
theorem k_X5_findChain {l : Launch} {kc : Nat → ClassId} {ad : Nat → Nat} {D : va_G} {adK adV : Nat → Nat} {x1 : Int32} {x2 : Int32} {x3 : Int32} {σ : St} {R : Int32 × St} (h : f_X5_findChain x1 x2 x3 σ = some R) : KC (eC adK adV) tC kc ad D l yX5_findChain (.code yX5_findChain cX5_findChain 6 (some .int)) r_X5_findChain [.ref (ad 3), .int x1, .int x2, .int x3] (some (.int R.1)) σ R.2 := by
  refine g_enter (by decide) (Nat.le_of_ble_eq_true rfl) ?_
  intro p e s m args below meth c A hA C hr hlocks Z ls hl
  have hl : lv_has ls 6 [(0, .ref (ad 3)), (1, .int x1), (2, .int x2), (3, .int x3)] := hl
  exact w_X5_findChain_0 C (g_RTi C.1.1 C.1.2.1 hr hlocks hA)  Z hl h
def r_X5_inChain : Room := { frames := 0, cells := 0, slots := 0, locals := 0 }
set_option maxRecDepth 20000 in
theorem w_X5_inChain_21 {p : Program} {l : Launch} {e : Env} {s : State} {m : MethodId} {args : Array Value} {below : List Frame} {meth : Method} {c : Code} {Q : State → Prop} {D : va_G} {kc : Nat → ClassId} {ad : Nat → Nat} {A : Nat → Prop} {adK adV : Nat → Nat} (C : Cx (eC adK adV) p s m args c cX5_inChain 2 RX5 D kc A) {R : Int32} {σ : St} (hR : RTi 0 0 p l e r_X5_inChain s m args below meth c cX5_inChain tC kc ad D A Q .int R σ) {H : Heap} {locs : List Loc} {ls : Array Slot} (Z : Dy tC kc ad D A s.heap σ H locs) (hl : lv_has ls 2 []) (h : f_X5_inChain_21 σ = some R) : W p l e r_X5_inChain s m args below meth c H locs 0 0 Q (F0 m 21 ls []) := by
  have hx := C.1.1
  have hb := C.1.2.1
  unfold f_X5_inChain_21 at h
  refine lv_iconst (v := (-1)) hx hb dX5_inChain_21 (by decide) ?_
  obtain rfl := Option.some.inj h
  exact hR _ _ _ _ _ Z dX5_inChain_22 rfl
set_option maxRecDepth 20000 in
theorem w_X5_inChain_0 {p : Program} {l : Launch} {e : Env} {s : State} {m : MethodId} {args : Array Value} {below : List Frame} {meth : Method} {c : Code} {Q : State → Prop} {D : va_G} {kc : Nat → ClassId} {ad : Nat → Nat} {A : Nat → Prop} {adK adV : Nat → Nat} (C : Cx (eC adK adV) p s m args c cX5_inChain 2 RX5 D kc A) {R : Int32} {x1 : Int32} {σ : St} (hR : RTi 0 0 p l e r_X5_inChain s m args below meth c cX5_inChain tC kc ad D A Q .int R σ) {H : Heap} {locs : List Loc} {ls : Array Slot} (Z : Dy tC kc ad D A s.heap σ H locs) (hl : lv_has ls 2 [(0, .ref (ad 3)), (1, .int x1)]) (h : f_X5_inChain x1 σ = some R) : W p l e r_X5_inChain s m args below meth c H locs 0 0 Q (F0 m 0 ls []) := by
  have hx := C.1.1
  have hb := C.1.2.1
  unfold f_X5_inChain at h
  refine lv_iload_n hx hb dX5_inChain_0 rfl (lv_at hl 1 rfl) ?_
  refine lv_if_lt (tgt := 21) hx hb dX5_inChain_1 (by decide) (fun c1 => ?_) (fun c1 => ?_)
  · have h := ip h c1
    exact w_X5_inChain_21 C hR Z (lv_sub hl [] rfl) h
  · have h := im h c1
    refine lv_iload_n hx hb dX5_inChain_4 rfl (lv_at hl 1 rfl) ?_
    refine lv_aload_n hx hb dX5_inChain_5 rfl (lv_at hl 0 rfl) ?_
    refine rg_X5_71 C Z dX5_inChain_6 ?_
    refine lv_icmp_ge (tgt := 21) hx hb dX5_inChain_9 (by decide) (fun c9 => ?_) (fun c9 => ?_)
    · have h := ip h c9
      exact w_X5_inChain_21 C hR Z (lv_sub hl [] rfl) h
    · have h := im h c9
      refine lv_aload_n hx hb dX5_inChain_12 rfl (lv_at hl 0 rfl) ?_
      refine rg_X5_39 C Z dX5_inChain_13 ?_
      refine lv_iload_n hx hb dX5_inChain_16 rfl (lv_at hl 1 rfl) ?_
      obtain ⟨v3, hv3, h⟩ := ob h
      refine g_iald C Z iaC31 hv3 dX5_inChain_17 ?_
      refine lv_goto (tgt := 22) hx hb dX5_inChain_18 (by decide) ?_
      obtain rfl := Option.some.inj h
      exact hR _ _ _ _ _ Z dX5_inChain_22 rfl
theorem k_X5_inChain {l : Launch} {kc : Nat → ClassId} {ad : Nat → Nat} {D : va_G} {adK adV : Nat → Nat} {x1 : Int32} {σ : St} {R : Int32} (h : f_X5_inChain x1 σ = some R) : KC (eC adK adV) tC kc ad D l yX5_inChain (.code yX5_inChain cX5_inChain 2 (some .int)) r_X5_inChain [.ref (ad 3), .int x1] (some (.int R)) σ σ := by
  refine g_enter (by decide) (Nat.le_of_ble_eq_true rfl) ?_
  intro p e s m args below meth c A hA C hr hlocks Z ls hl
  have hl : lv_has ls 2 [(0, .ref (ad 3)), (1, .int x1)] := hl
  exact w_X5_inChain_0 C (g_RTi C.1.1 C.1.2.1 hr hlocks hA)  Z hl h
def r_X6_isCell : Room := { frames := 1, cells := 0, slots := 0, locals := 22 }
set_option maxRecDepth 20000 in
theorem w_X6_isCell_24 {p : Program} {l : Launch} {e : Env} {s : State} {m : MethodId} {args : Array Value} {below : List Frame} {meth : Method} {c : Code} {Q : State → Prop} {D : va_G} {kc : Nat → ClassId} {ad : Nat → Nat} {A : Nat → Prop} {adK adV : Nat → Nat} (C : Cx (eC adK adV) p s m args c cX6_isCell 2 RX6 D kc A) {R : Int32} {σ : St} (hR : RTi 0 0 p l e r_X6_isCell s m args below meth c cX6_isCell tC kc ad D A Q .boolean R σ) {H : Heap} {locs : List Loc} {ls : Array Slot} (Z : Dy tC kc ad D A s.heap σ H locs) (hl : lv_has ls 2 []) (h : f_X6_isCell_24 = R) : W p l e r_X6_isCell s m args below meth c H locs 0 0 Q (F0 m 24 ls []) := by
  have hx := C.1.1
  have hb := C.1.2.1
  unfold f_X6_isCell_24 at h
  refine lv_iconst (v := 0) hx hb dX6_isCell_24 (by decide) ?_
  subst h
  exact hR _ _ _ _ _ Z dX6_isCell_25 rfl
set_option maxRecDepth 20000 in
theorem w_X6_isCell_0 {p : Program} {l : Launch} {e : Env} {s : State} {m : MethodId} {args : Array Value} {below : List Frame} {meth : Method} {c : Code} {Q : State → Prop} {D : va_G} {kc : Nat → ClassId} {ad : Nat → Nat} {A : Nat → Prop} {adK adV : Nat → Nat} (C : Cx (eC adK adV) p s m args c cX6_isCell 2 RX6 D kc A) {R : Int32} {x0 : Int32} {x1 : Int32} {σ : St} (hR : RTi 0 0 p l e r_X6_isCell s m args below meth c cX6_isCell tC kc ad D A Q .boolean R σ) {H : Heap} {locs : List Loc} {ls : Array Slot} (Z : Dy tC kc ad D A s.heap σ H locs) (hl : lv_has ls 2 [(0, .int x0), (1, .int x1)]) (h : f_X6_isCell x0 x1 = R) : W p l e r_X6_isCell s m args below meth c H locs 0 0 Q (F0 m 0 ls []) := by
  have hx := C.1.1
  have hb := C.1.2.1
  unfold f_X6_isCell at h
  refine lv_iload_n hx hb dX6_isCell_0 rfl (lv_at hl 0 rfl) ?_
  refine lv_iconst (v := 0) hx hb dX6_isCell_1 (by decide) ?_
  refine lv_bipush (v := 23) hx hb dX6_isCell_2 (by decide) ?_
  refine g_callNi (eC_ok adK adV) C Z (k_X10_lies x0 0 23 σ) (C.2.2.2.1 _ nw_X6_24) lkn_X10_lies hl (by decide) rfl (Nat.le_of_ble_eq_true rfl) (rest := []) rfl dX6_isCell_4 (fun H locs Z => ?_)
  refine lv_if_eq (tgt := 24) hx hb dX6_isCell_7 (by decide) (fun c7 => ?_) (fun c7 => ?_)
  · have h := ip h c7
    exact w_X6_isCell_24 C hR Z (lv_sub hl [] rfl) h
  · have h := im h c7
    refine lv_iload_n hx hb dX6_isCell_10 rfl (lv_at hl 1 rfl) ?_
    refine lv_iconst (v := 0) hx hb dX6_isCell_11 (by decide) ?_
    refine lv_bipush (v := 23) hx hb dX6_isCell_12 (by decide) ?_
    refine g_callNi (eC_ok adK adV) C Z (k_X10_lies x1 0 23 σ) (C.2.2.2.1 _ nw_X6_24) lkn_X10_lies hl (by decide) rfl (Nat.le_of_ble_eq_true rfl) (rest := []) rfl dX6_isCell_14 (fun H locs Z => ?_)
    refine lv_if_eq (tgt := 24) hx hb dX6_isCell_17 (by decide) (fun c17 => ?_) (fun c17 => ?_)
    · have h := ip h c17
      exact w_X6_isCell_24 C hR Z (lv_sub hl [] rfl) h
    · have h := im h c17
      refine lv_iconst (v := 1) hx hb dX6_isCell_20 (by decide) ?_
      refine lv_goto (tgt := 25) hx hb dX6_isCell_21 (by decide) ?_
      subst h
      exact hR _ _ _ _ _ Z dX6_isCell_25 rfl
theorem k_X6_isCell {l : Launch} {kc : Nat → ClassId} {ad : Nat → Nat} {D : va_G} {adK adV : Nat → Nat} (x0 : Int32) (x1 : Int32) (σ : St) : KC (eC adK adV) tC kc ad D l yX6_isCell (.code yX6_isCell cX6_isCell 2 (some .boolean)) r_X6_isCell [.int x0, .int x1] (some (.int (f_X6_isCell x0 x1))) σ σ := by
  refine g_enter (by decide) (Nat.le_of_ble_eq_true rfl) ?_
  intro p e s m args below meth c A hA C hr hlocks Z ls hl
  have hl : lv_has ls 2 [(0, .int x0), (1, .int x1)] := hl
  exact w_X6_isCell_0 C (g_RTi C.1.1 C.1.2.1 hr hlocks hA)  Z hl rfl
def r_X6_xOf : Room := { frames := 0, cells := 0, slots := 0, locals := 0 }
set_option maxRecDepth 20000 in
theorem w_X6_xOf_0 {p : Program} {l : Launch} {e : Env} {s : State} {m : MethodId} {args : Array Value} {below : List Frame} {meth : Method} {c : Code} {Q : State → Prop} {D : va_G} {kc : Nat → ClassId} {ad : Nat → Nat} {A : Nat → Prop} {adK adV : Nat → Nat} (C : Cx (eC adK adV) p s m args c cX6_xOf 1 RX6 D kc A) {R : Int32} {x0 : Int32} {σ : St} (hR : RTi 0 0 p l e r_X6_xOf s m args below meth c cX6_xOf tC kc ad D A Q .int R σ) {H : Heap} {locs : List Loc} {ls : Array Slot} (Z : Dy tC kc ad D A s.heap σ H locs) (hl : lv_has ls 1 [(0, .int x0)]) (h : f_X6_xOf x0 = R) : W p l e r_X6_xOf s m args below meth c H locs 0 0 Q (F0 m 0 ls []) := by
  have hx := C.1.1
  have hb := C.1.2.1
  unfold f_X6_xOf at h
  refine lv_iload_n hx hb dX6_xOf_0 rfl (lv_at hl 0 rfl) ?_
  refine lv_bipush (v := 24) hx hb dX6_xOf_1 (by decide) ?_
  refine lv_irem hx hb dX6_xOf_3 (by decide) ?_
  subst h
  exact hR _ _ _ _ _ Z dX6_xOf_4 rfl
theorem k_X6_xOf {l : Launch} {kc : Nat → ClassId} {ad : Nat → Nat} {D : va_G} {adK adV : Nat → Nat} (x0 : Int32) (σ : St) : KC (eC adK adV) tC kc ad D l yX6_xOf (.code yX6_xOf cX6_xOf 1 (some .int)) r_X6_xOf [.int x0] (some (.int (f_X6_xOf x0))) σ σ := by
  refine g_enter (by decide) (Nat.le_of_ble_eq_true rfl) ?_
  intro p e s m args below meth c A hA C hr hlocks Z ls hl
  have hl : lv_has ls 1 [(0, .int x0)] := hl
  exact w_X6_xOf_0 C (g_RTi C.1.1 C.1.2.1 hr hlocks hA)  Z hl rfl
def r_X6_yOf : Room := { frames := 0, cells := 0, slots := 0, locals := 0 }
set_option maxRecDepth 20000 in
theorem w_X6_yOf_0 {p : Program} {l : Launch} {e : Env} {s : State} {m : MethodId} {args : Array Value} {below : List Frame} {meth : Method} {c : Code} {Q : State → Prop} {D : va_G} {kc : Nat → ClassId} {ad : Nat → Nat} {A : Nat → Prop} {adK adV : Nat → Nat} (C : Cx (eC adK adV) p s m args c cX6_yOf 1 RX6 D kc A) {R : Int32} {x0 : Int32} {σ : St} (hR : RTi 0 0 p l e r_X6_yOf s m args below meth c cX6_yOf tC kc ad D A Q .int R σ) {H : Heap} {locs : List Loc} {ls : Array Slot} (Z : Dy tC kc ad D A s.heap σ H locs) (hl : lv_has ls 1 [(0, .int x0)]) (h : f_X6_yOf x0 = R) : W p l e r_X6_yOf s m args below meth c H locs 0 0 Q (F0 m 0 ls []) := by
  have hx := C.1.1
  have hb := C.1.2.1
  unfold f_X6_yOf at h
  refine lv_iload_n hx hb dX6_yOf_0 rfl (lv_at hl 0 rfl) ?_
  refine lv_bipush (v := 24) hx hb dX6_yOf_1 (by decide) ?_
  refine lv_idiv hx hb dX6_yOf_3 (by decide) ?_
  subst h
  exact hR _ _ _ _ _ Z dX6_yOf_4 rfl
theorem k_X6_yOf {l : Launch} {kc : Nat → ClassId} {ad : Nat → Nat} {D : va_G} {adK adV : Nat → Nat} (x0 : Int32) (σ : St) : KC (eC adK adV) tC kc ad D l yX6_yOf (.code yX6_yOf cX6_yOf 1 (some .int)) r_X6_yOf [.int x0] (some (.int (f_X6_yOf x0))) σ σ := by
  refine g_enter (by decide) (Nat.le_of_ble_eq_true rfl) ?_
  intro p e s m args below meth c A hA C hr hlocks Z ls hl
  have hl : lv_has ls 1 [(0, .int x0)] := hl
  exact w_X6_yOf_0 C (g_RTi C.1.1 C.1.2.1 hr hlocks hA)  Z hl rfl
def r_X6_depthAt : Room := { frames := 2, cells := 0, slots := 0, locals := 43 }
set_option maxRecDepth 20000 in
theorem w_X6_depthAt_0 {p : Program} {l : Launch} {e : Env} {s : State} {m : MethodId} {args : Array Value} {below : List Frame} {meth : Method} {c : Code} {Q : State → Prop} {D : va_G} {kc : Nat → ClassId} {ad : Nat → Nat} {A : Nat → Prop} {adK adV : Nat → Nat} (C : Cx (eC adK adV) p s m args c cX6_depthAt 3 RX6 D kc A) {R : Int32} {x1 : Int32} {x2 : Int32} {σ : St} (hR : RTi 0 0 p l e r_X6_depthAt s m args below meth c cX6_depthAt tC kc ad D A Q .int R σ) {H : Heap} {locs : List Loc} {ls : Array Slot} (Z : Dy tC kc ad D A s.heap σ H locs) (hl : lv_has ls 3 [(0, .ref (ad 1)), (1, .int x1), (2, .int x2)]) (h : f_X6_depthAt x1 x2 σ = some R) : W p l e r_X6_depthAt s m args below meth c H locs 0 0 Q (F0 m 0 ls []) := by
  have hx := C.1.1
  have hb := C.1.2.1
  unfold f_X6_depthAt at h
  refine lv_iload_n hx hb dX6_depthAt_0 rfl (lv_at hl 1 rfl) ?_
  refine lv_iload_n hx hb dX6_depthAt_1 rfl (lv_at hl 2 rfl) ?_
  refine g_callSi (eC_ok adK adV) C Z (k_X6_isCell x1 x2 σ) lk_X6_28 hl (by decide) rfl (Nat.le_of_ble_eq_true rfl) (rest := []) rfl dX6_depthAt_2 (fun H locs Z => ?_)
  refine lv_if_eq (tgt := 22) hx hb dX6_depthAt_5 (by decide) (fun c5 => ?_) (fun c5 => ?_)
  · have h := ip h c5
    refine lv_iconst (v := 0) hx hb dX6_depthAt_22 (by decide) ?_
    obtain rfl := Option.some.inj h
    exact hR _ _ _ _ _ Z dX6_depthAt_23 rfl
  · have h := im h c5
    refine lv_aload_n hx hb dX6_depthAt_8 rfl (lv_at hl 0 rfl) ?_
    refine rg_X6_11 C Z dX6_depthAt_9 ?_
    refine lv_bipush (v := 24) hx hb dX6_depthAt_12 (by decide) ?_
    refine lv_iload_n hx hb dX6_depthAt_14 rfl (lv_at hl 2 rfl) ?_
    refine lv_imul hx hb dX6_depthAt_15 ?_
    refine lv_iload_n hx hb dX6_depthAt_16 rfl (lv_at hl 1 rfl) ?_
    refine lv_iadd hx hb dX6_depthAt_17 ?_
    obtain ⟨v3, hv3, h⟩ := ob h
    refine g_iald C Z iaC14 hv3 dX6_depthAt_18 ?_
    refine lv_goto (tgt := 23) hx hb dX6_depthAt_19 (by decide) ?_
    obtain rfl := Option.some.inj h
    exact hR _ _ _ _ _ Z dX6_depthAt_23 rfl
theorem k_X6_depthAt {l : Launch} {kc : Nat → ClassId} {ad : Nat → Nat} {D : va_G} {adK adV : Nat → Nat} {x1 : Int32} {x2 : Int32} {σ : St} {R : Int32} (h : f_X6_depthAt x1 x2 σ = some R) : KC (eC adK adV) tC kc ad D l yX6_depthAt (.code yX6_depthAt cX6_depthAt 3 (some .int)) r_X6_depthAt [.ref (ad 1), .int x1, .int x2] (some (.int R)) σ σ := by
  refine g_enter (by decide) (Nat.le_of_ble_eq_true rfl) ?_
  intro p e s m args below meth c A hA C hr hlocks Z ls hl
  have hl : lv_has ls 3 [(0, .ref (ad 1)), (1, .int x1), (2, .int x2)] := hl
  exact w_X6_depthAt_0 C (g_RTi C.1.1 C.1.2.1 hr hlocks hA)  Z hl h
def r_X6_changeDepth : Room := { frames := 2, cells := 0, slots := 0, locals := 43 }
set_option maxRecDepth 20000 in
theorem w_X6_changeDepth_0 {p : Program} {l : Launch} {e : Env} {s : State} {m : MethodId} {args : Array Value} {below : List Frame} {meth : Method} {c : Code} {Q : State → Prop} {D : va_G} {kc : Nat → ClassId} {ad : Nat → Nat} {A : Nat → Prop} {adK adV : Nat → Nat} (C : Cx (eC adK adV) p s m args c cX6_changeDepth 5 RX6 D kc A) {R : Int32 × St} {x1 : Int32} {x2 : Int32} {x3 : Int32} {σ : St} (hR : RTi 0 0 p l e r_X6_changeDepth s m args below meth c cX6_changeDepth tC kc ad D A Q .int R.1 R.2) {H : Heap} {locs : List Loc} {ls : Array Slot} (Z : Dy tC kc ad D A s.heap σ H locs) (hl : lv_has ls 5 [(0, .ref (ad 1)), (1, .int x1), (2, .int x2), (3, .int x3)]) (h : f_X6_changeDepth x1 x2 x3 σ = some R) : W p l e r_X6_changeDepth s m args below meth c H locs 0 0 Q (F0 m 0 ls []) := by
  have hx := C.1.1
  have hb := C.1.2.1
  unfold f_X6_changeDepth at h
  refine lv_iload_n hx hb dX6_changeDepth_0 rfl (lv_at hl 1 rfl) ?_
  refine lv_iload_n hx hb dX6_changeDepth_1 rfl (lv_at hl 2 rfl) ?_
  refine g_callSi (eC_ok adK adV) C Z (k_X6_isCell x1 x2 σ) lk_X6_28 hl (by decide) rfl (Nat.le_of_ble_eq_true rfl) (rest := []) rfl dX6_changeDepth_2 (fun H locs Z => ?_)
  refine lv_if_ne (tgt := 10) hx hb dX6_changeDepth_5 (by decide) (fun c5 => ?_) (fun c5 => ?_)
  · have h := im h c5
    refine lv_aload_n hx hb dX6_changeDepth_10 rfl (lv_at hl 0 rfl) ?_
    refine rg_X6_11 C Z dX6_changeDepth_11 ?_
    refine lv_bipush (v := 24) hx hb dX6_changeDepth_14 (by decide) ?_
    refine lv_iload_n hx hb dX6_changeDepth_16 rfl (lv_at hl 2 rfl) ?_
    refine lv_imul hx hb dX6_changeDepth_17 ?_
    refine lv_iload_n hx hb dX6_changeDepth_18 rfl (lv_at hl 1 rfl) ?_
    refine lv_iadd hx hb dX6_changeDepth_19 ?_
    obtain ⟨v5, hv5, h⟩ := ob h
    refine g_iald C Z iaC14 hv5 dX6_changeDepth_20 ?_
    refine lv_istore (lv' := [(4, .int v5), (0, .ref (ad 1)), (1, .int x1), (2, .int x2), (3, .int x3)]) hx hb dX6_changeDepth_21 hl (by decide) rfl (fun ls hl => ?_)
    refine lv_aload_n hx hb dX6_changeDepth_23 rfl (lv_at hl 1 rfl) ?_
    refine rg_X6_11 C Z dX6_changeDepth_24 ?_
    refine lv_bipush (v := 24) hx hb dX6_changeDepth_27 (by decide) ?_
    refine lv_iload_n hx hb dX6_changeDepth_29 rfl (lv_at hl 3 rfl) ?_
    refine lv_imul hx hb dX6_changeDepth_30 ?_
    refine lv_iload_n hx hb dX6_changeDepth_31 rfl (lv_at hl 2 rfl) ?_
    refine lv_iadd hx hb dX6_changeDepth_32 ?_
    refine lv_iload_n hx hb dX6_changeDepth_33 rfl (lv_at hl 4 rfl) ?_
    obtain ⟨σ6, hσ6, h⟩ := ob h
    refine g_iast C Z iaC14 hσ6 dX6_changeDepth_34 (fun H locs Z => ?_)
    refine lv_iload hx hb dX6_changeDepth_35 (lv_at hl 0 rfl) ?_
    obtain rfl := Option.some.inj h
    exact hR _ _ _ _ _ Z dX6_changeDepth_37 rfl
  · have h := ip h c5
    refine lv_iconst (v := (-1)) hx hb dX6_changeDepth_8 (by decide) ?_
    obtain rfl := Option.some.inj h
    exact hR _ _ _ _ _ Z dX6_changeDepth_9 rfl
theorem k_X6_changeDepth {l : Launch} {kc : Nat → ClassId} {ad : Nat → Nat} {D : va_G} {adK adV : Nat → Nat} {x1 : Int32} {x2 : Int32} {x3 : Int32} {σ : St} {R : Int32 × St} (h : f_X6_changeDepth x1 x2 x3 σ = some R) : KC (eC adK adV) tC kc ad D l yX6_changeDepth (.code yX6_changeDepth cX6_changeDepth 5 (some .int)) r_X6_changeDepth [.ref (ad 1), .int x1, .int x2, .int x3] (some (.int R.1)) σ R.2 := by
  refine g_enter (by decide) (Nat.le_of_ble_eq_true rfl) ?_
  intro p e s m args below meth c A hA C hr hlocks Z ls hl
  have hl : lv_has ls 5 [(0, .ref (ad 1)), (1, .int x1), (2, .int x2), (3, .int x3)] := hl
  exact w_X6_changeDepth_0 C (g_RTi C.1.1 C.1.2.1 hr hlocks hA)  Z hl h
def r_X10_isSide : Room := { frames := 1, cells := 0, slots := 0, locals := 22 }
set_option maxRecDepth 20000 in
theorem w_X10_isSide_0 {p : Program} {l : Launch} {e : Env} {s : State} {m : MethodId} {args : Array Value} {below : List Frame} {meth : Method} {c : Code} {Q : State → Prop} {D : va_G} {kc : Nat → ClassId} {ad : Nat → Nat} {A : Nat → Prop} {adK adV : Nat → Nat} (C : Cx (eC adK adV) p s m args c cX10_isSide 1 RX10 D kc A) {R : Int32} {x0 : Int32} {σ : St} (hR : RTi 0 0 p l e r_X10_isSide s m args below meth c cX10_isSide tC kc ad D A Q .boolean R σ) {H : Heap} {locs : List Loc} {ls : Array Slot} (Z : Dy tC kc ad D A s.heap σ H locs) (hl : lv_has ls 1 [(0, .int x0)]) (h : f_X10_isSide x0 = R) : W p l e r_X10_isSide s m args below meth c H locs 0 0 Q (F0 m 0 ls []) := by
  have hx := C.1.1
  have hb := C.1.2.1
  unfold f_X10_isSide at h
  refine lv_iload_n hx hb dX10_isSide_0 rfl (lv_at hl 0 rfl) ?_
  refine lv_iconst (v := 0) hx hb dX10_isSide_1 (by decide) ?_
  refine lv_iconst (v := 1) hx hb dX10_isSide_2 (by decide) ?_
  refine g_callSi (eC_ok adK adV) C Z (k_X10_lies x0 0 1 σ) lk_X10_99 hl (by decide) rfl (Nat.le_of_ble_eq_true rfl) (rest := []) rfl dX10_isSide_3 (fun H locs Z => ?_)
  subst h
  exact hR _ _ _ _ _ Z dX10_isSide_6 (nar_b _)
theorem k_X10_isSide {l : Launch} {kc : Nat → ClassId} {ad : Nat → Nat} {D : va_G} {adK adV : Nat → Nat} (x0 : Int32) (σ : St) : KC (eC adK adV) tC kc ad D l yX10_isSide (.code yX10_isSide cX10_isSide 1 (some .boolean)) r_X10_isSide [.int x0] (some (.int (f_X10_isSide x0))) σ σ := by
  refine g_enter (by decide) (Nat.le_of_ble_eq_true rfl) ?_
  intro p e s m args below meth c A hA C hr hlocks Z ls hl
  have hl : lv_has ls 1 [(0, .int x0)] := hl
  exact w_X10_isSide_0 C (g_RTi C.1.1 C.1.2.1 hr hlocks hA)  Z hl rfl
def r_X6_addPoint : Room := { frames := 2, cells := 0, slots := 0, locals := 42 }
set_option maxRecDepth 20000 in
theorem w_X6_addPoint_0 {p : Program} {l : Launch} {e : Env} {s : State} {m : MethodId} {args : Array Value} {below : List Frame} {meth : Method} {c : Code} {Q : State → Prop} {D : va_G} {kc : Nat → ClassId} {ad : Nat → Nat} {A : Nat → Prop} {adK adV : Nat → Nat} (C : Cx (eC adK adV) p s m args c cX6_addPoint 5 RX6 D kc A) {R : Int32 × St} {x1 : Int32} {x2 : Int32} {x3 : Int32} {σ : St} (hR : RTi 0 0 p l e r_X6_addPoint s m args below meth c cX6_addPoint tC kc ad D A Q .int R.1 R.2) {H : Heap} {locs : List Loc} {ls : Array Slot} (Z : Dy tC kc ad D A s.heap σ H locs) (hl : lv_has ls 5 [(0, .ref (ad 1)), (1, .int x1), (2, .int x2), (3, .int x3)]) (h : f_X6_addPoint x1 x2 x3 σ = some R) : W p l e r_X6_addPoint s m args below meth c H locs 0 0 Q (F0 m 0 ls []) := by
  have hx := C.1.1
  have hb := C.1.2.1
  unfold f_X6_addPoint at h
  refine lv_iload_n hx hb dX6_addPoint_0 rfl (lv_at hl 1 rfl) ?_
  refine g_callNi (eC_ok adK adV) C Z (k_X10_isSide x1 σ) (C.2.2.2.1 _ nw_X6_32) lkn_X10_isSide hl (by decide) rfl (Nat.le_of_ble_eq_true rfl) (rest := []) rfl dX6_addPoint_1 (fun H locs Z => ?_)
  refine lv_if_eq (tgt := 18) hx hb dX6_addPoint_4 (by decide) (fun c4 => ?_) (fun c4 => ?_)
  · have h := ip h c4
    refine lv_iconst (v := (-1)) hx hb dX6_addPoint_18 (by decide) ?_
    obtain rfl := Option.some.inj h
    exact hR _ _ _ _ _ Z dX6_addPoint_19 rfl
  · have h := im h c4
    refine lv_aload_n hx hb dX6_addPoint_7 rfl (lv_at hl 0 rfl) ?_
    refine rg_X6_21 C Z dX6_addPoint_8 ?_
    refine lv_iload_n hx hb dX6_addPoint_11 rfl (lv_at hl 1 rfl) ?_
    obtain ⟨v11, hv11, h⟩ := ob h
    refine g_iald C Z iaC17 hv11 dX6_addPoint_12 ?_
    refine lv_bipush (v := 16) hx hb dX6_addPoint_13 (by decide) ?_
    refine lv_icmp_lt (tgt := 20) hx hb dX6_addPoint_15 (by decide) (fun c15 => ?_) (fun c15 => ?_)
    · have h := ip h c15
      refine lv_aload_n hx hb dX6_addPoint_20 rfl (lv_at hl 0 rfl) ?_
      refine rg_X6_21 C Z dX6_addPoint_21 ?_
      refine lv_iload_n hx hb dX6_addPoint_24 rfl (lv_at hl 1 rfl) ?_
      obtain ⟨v12, hv12, h⟩ := ob h
      refine g_iald C Z iaC17 hv12 dX6_addPoint_25 ?_
      refine lv_istore (lv' := [(4, .int v12), (0, .ref (ad 1)), (1, .int x1), (2, .int x2), (3, .int x3)]) hx hb dX6_addPoint_26 hl (by decide) rfl (fun ls hl => ?_)
      refine lv_aload_n hx hb dX6_addPoint_28 rfl (lv_at hl 1 rfl) ?_
      refine rg_X6_15 C Z dX6_addPoint_29 ?_
      refine lv_iload_n hx hb dX6_addPoint_32 rfl (lv_at hl 2 rfl) ?_
      refine lv_bipush (v := 16) hx hb dX6_addPoint_33 (by decide) ?_
      refine lv_imul hx hb dX6_addPoint_35 ?_
      refine lv_iload hx hb dX6_addPoint_36 (lv_at hl 0 rfl) ?_
      refine lv_iadd hx hb dX6_addPoint_38 ?_
      refine lv_iload_n hx hb dX6_addPoint_39 rfl (lv_at hl 3 rfl) ?_
      obtain ⟨σ13, hσ13, h⟩ := ob h
      refine g_iast C Z iaC15 hσ13 dX6_addPoint_40 (fun H locs Z => ?_)
      refine lv_aload_n hx hb dX6_addPoint_41 rfl (lv_at hl 1 rfl) ?_
      refine rg_X6_18 C Z dX6_addPoint_42 ?_
      refine lv_iload_n hx hb dX6_addPoint_45 rfl (lv_at hl 2 rfl) ?_
      refine lv_bipush (v := 16) hx hb dX6_addPoint_46 (by decide) ?_
      refine lv_imul hx hb dX6_addPoint_48 ?_
      refine lv_iload hx hb dX6_addPoint_49 (lv_at hl 0 rfl) ?_
      refine lv_iadd hx hb dX6_addPoint_51 ?_
      refine lv_iload_n hx hb dX6_addPoint_52 rfl (lv_at hl 4 rfl) ?_
      obtain ⟨σ14, hσ14, h⟩ := ob h
      refine g_iast C Z iaC16 hσ14 dX6_addPoint_53 (fun H locs Z => ?_)
      refine lv_aload_n hx hb dX6_addPoint_54 rfl (lv_at hl 1 rfl) ?_
      refine rg_X6_21 C Z dX6_addPoint_55 ?_
      refine lv_iload_n hx hb dX6_addPoint_58 rfl (lv_at hl 2 rfl) ?_
      refine lv_iload hx hb dX6_addPoint_59 (lv_at hl 0 rfl) ?_
      refine lv_iconst (v := 1) hx hb dX6_addPoint_61 (by decide) ?_
      refine lv_iadd hx hb dX6_addPoint_62 ?_
      obtain ⟨σ15, hσ15, h⟩ := ob h
      refine g_iast C Z iaC17 hσ15 dX6_addPoint_63 (fun H locs Z => ?_)
      refine lv_iload hx hb dX6_addPoint_64 (lv_at hl 0 rfl) ?_
      obtain rfl := Option.some.inj h
      exact hR _ _ _ _ _ Z dX6_addPoint_66 rfl
    · have h := im h c15
      refine lv_iconst (v := (-1)) hx hb dX6_addPoint_18 (by decide) ?_
      obtain rfl := Option.some.inj h
      exact hR _ _ _ _ _ Z dX6_addPoint_19 rfl
theorem k_X6_addPoint {l : Launch} {kc : Nat → ClassId} {ad : Nat → Nat} {D : va_G} {adK adV : Nat → Nat} {x1 : Int32} {x2 : Int32} {x3 : Int32} {σ : St} {R : Int32 × St} (h : f_X6_addPoint x1 x2 x3 σ = some R) : KC (eC adK adV) tC kc ad D l yX6_addPoint (.code yX6_addPoint cX6_addPoint 5 (some .int)) r_X6_addPoint [.ref (ad 1), .int x1, .int x2, .int x3] (some (.int R.1)) σ R.2 := by
  refine g_enter (by decide) (Nat.le_of_ble_eq_true rfl) ?_
  intro p e s m args below meth c A hA C hr hlocks Z ls hl
  have hl : lv_has ls 5 [(0, .ref (ad 1)), (1, .int x1), (2, .int x2), (3, .int x3)] := hl
  exact w_X6_addPoint_0 C (g_RTi C.1.1 C.1.2.1 hr hlocks hA)  Z hl h
def r_X6_isNear : Room := { frames := 2, cells := 0, slots := 0, locals := 42 }
set_option maxRecDepth 20000 in
theorem w_X6_isNear_19 {p : Program} {l : Launch} {e : Env} {s : State} {m : MethodId} {args : Array Value} {below : List Frame} {meth : Method} {c : Code} {Q : State → Prop} {D : va_G} {kc : Nat → ClassId} {ad : Nat → Nat} {A : Nat → Prop} {adK adV : Nat → Nat} (C : Cx (eC adK adV) p s m args c cX6_isNear 10 RX6 D kc A) {R : Int32} {x1 : Int32} {x2 : Int32} {x3 : Int32} {x4 : Int32} {x5 : Int32} {x6 : Int32} {σ : St} (hR : RTi 0 0 p l e r_X6_isNear s m args below meth c cX6_isNear tC kc ad D A Q .boolean R σ) : ∀ (n : Nat) (x7 : Int32) (H : Heap) (locs : List Loc) (ls : Array Slot), Dy tC kc ad D A s.heap σ H locs → lv_has ls 10 [(0, .ref (ad 1)), (1, .int x1), (2, .int x2), (3, .int x3), (4, .int x4), (5, .int x5), (6, .int x6), (7, .int x7)] → f_X6_isNear_19 x1 x2 x3 x4 x5 x6 σ n x7 = some R → W p l e r_X6_isNear s m args below meth c H locs 0 0 Q (F0 m 19 ls []) := by
  have hx := C.1.1
  have hb := C.1.2.1
  intro n
  induction n with
  | zero =>
    intro x7 H locs ls Z hl h
    exact absurd (show none = some R from h) (by simp)
  | succ n ih =>
    intro x7 H locs ls Z hl h
    rw [f_X6_isNear_19] at h
    refine lv_iload hx hb dX6_isNear_19 (lv_at hl 7 rfl) ?_
    refine lv_iload hx hb dX6_isNear_21 (lv_at hl 6 rfl) ?_
    refine lv_aload_n hx hb dX6_isNear_23 rfl (lv_at hl 0 rfl) ?_
    refine rg_X6_21 C Z dX6_isNear_24 ?_
    refine lv_iload_n hx hb dX6_isNear_27 rfl (lv_at hl 1 rfl) ?_
    obtain ⟨v16, hv16, h⟩ := ob h
    refine g_iald C Z iaC17 hv16 dX6_isNear_28 ?_
    refine lv_iadd hx hb dX6_isNear_29 ?_
    refine lv_icmp_ge (tgt := 111) hx hb dX6_isNear_30 (by decide) (fun c30 => ?_) (fun c30 => ?_)
    · have h := ip h c30
      refine lv_iconst (v := 0) hx hb dX6_isNear_111 (by decide) ?_
      obtain rfl := Option.some.inj h
      exact hR _ _ _ _ _ Z dX6_isNear_112 rfl
    · have h := im h c30
      refine lv_iload_n hx hb dX6_isNear_33 rfl (lv_at hl 3 rfl) ?_
      refine lv_aload_n hx hb dX6_isNear_34 rfl (lv_at hl 0 rfl) ?_
      refine rg_X6_15 C Z dX6_isNear_35 ?_
      refine lv_iload hx hb dX6_isNear_38 (lv_at hl 7 rfl) ?_
      obtain ⟨v17, hv17, h⟩ := ob h
      refine g_iald C Z iaC15 hv17 dX6_isNear_40 ?_
      refine lv_isub hx hb dX6_isNear_41 ?_
      refine lv_iload_n hx hb dX6_isNear_42 rfl (lv_at hl 2 rfl) ?_
      refine lv_iconst (v := 1) hx hb dX6_isNear_43 (by decide) ?_
      obtain ⟨v18, ev18, h⟩ := lb h
      have hj : W p l e r_X6_isNear s m args below meth c H locs 0 0 Q (F0 m 55 ls [.int v18, .int (x3 - v17)]) := by
        refine lv_isub hx hb dX6_isNear_55 ?_
        obtain ⟨v19, ev19, h⟩ := lb h
        refine tn_i ev19 ?_
        refine lv_istore (lv' := [(8, .int v19), (0, .ref (ad 1)), (1, .int x1), (2, .int x2), (3, .int x3), (4, .int x4), (5, .int x5), (6, .int x6), (7, .int x7)]) hx hb dX6_isNear_56 hl (by decide) rfl (fun ls hl => ?_)
        refine lv_iload hx hb dX6_isNear_58 (lv_at hl 5 rfl) ?_
        refine lv_aload_n hx hb dX6_isNear_60 rfl (lv_at hl 1 rfl) ?_
        refine rg_X6_18 C Z dX6_isNear_61 ?_
        refine lv_iload hx hb dX6_isNear_64 (lv_at hl 8 rfl) ?_
        obtain ⟨v20, hv20, h⟩ := ob h
        refine g_iald C Z iaC16 hv20 dX6_isNear_66 ?_
        refine lv_isub hx hb dX6_isNear_67 ?_
        refine lv_iload_n hx hb dX6_isNear_68 rfl (lv_at hl 3 rfl) ?_
        refine lv_iconst (v := 1) hx hb dX6_isNear_69 (by decide) ?_
        obtain ⟨v21, ev21, h⟩ := lb h
        have hj : W p l e r_X6_isNear s m args below meth c H locs 0 0 Q (F0 m 81 ls [.int v21, .int (x4 - v20)]) := by
          refine lv_isub hx hb dX6_isNear_81 ?_
          obtain ⟨v22, ev22, h⟩ := lb h
          refine tn_i ev22 ?_
          refine lv_istore (lv' := [(9, .int v22), (8, .int v19), (0, .ref (ad 1)), (1, .int x1), (2, .int x2), (3, .int x3), (4, .int x4), (5, .int x5), (6, .int x6), (7, .int x7)]) hx hb dX6_isNear_82 hl (by decide) rfl (fun ls hl => ?_)
          refine lv_iload hx hb dX6_isNear_84 (lv_at hl 1 rfl) ?_
          refine lv_iload hx hb dX6_isNear_86 (lv_at hl 1 rfl) ?_
          refine lv_imul hx hb dX6_isNear_88 ?_
          refine lv_iload hx hb dX6_isNear_89 (lv_at hl 0 rfl) ?_
          refine lv_iload hx hb dX6_isNear_91 (lv_at hl 0 rfl) ?_
          refine lv_imul hx hb dX6_isNear_93 ?_
          refine lv_iadd hx hb dX6_isNear_94 ?_
          refine lv_iload hx hb dX6_isNear_95 (lv_at hl 7 rfl) ?_
          refine lv_iload hx hb dX6_isNear_97 (lv_at hl 7 rfl) ?_
          refine lv_imul hx hb dX6_isNear_99 ?_
          refine lv_icmp_gt (tgt := 105) hx hb dX6_isNear_100 (by decide) (fun c100 => ?_) (fun c100 => ?_)
          · have h := ip h c100
            obtain ⟨v23, ev23, h⟩ := lb h
            refine lv_iinc (v := v23) (lv' := [(7, .int v23), (9, .int v22), (8, .int v19), (0, .ref (ad 1)), (1, .int x1), (2, .int x2), (3, .int x3), (4, .int x4), (5, .int x5), (6, .int x6)]) hx hb dX6_isNear_105 hl (k := 9) rfl (by rw [ev23]; rfl) (by decide) rfl (fun ls hl => ?_)
            refine lv_goto (tgt := 19) hx hb dX6_isNear_108 (by decide) ?_
            exact ih _ _ _ _ Z (lv_sub hl [3, 4, 5, 6, 7, 8, 9, 0] rfl) h
          · have h := im h c100
            refine lv_iconst (v := 1) hx hb dX6_isNear_103 (by decide) ?_
            obtain rfl := Option.some.inj h
            exact hR _ _ _ _ _ Z dX6_isNear_104 rfl
        refine lv_icmp_ne (tgt := 80) hx hb dX6_isNear_70 (by decide) (fun c70 => ?_) (fun c70 => ?_)
        · rw [if_neg c70] at ev21
          refine lv_iconst (v := 0) hx hb dX6_isNear_80 (by decide) ?_
          exact tn_i ev21 hj
        · rw [if_pos c70] at ev21
          refine lv_aload_n hx hb dX6_isNear_73 rfl (lv_at hl 1 rfl) ?_
          refine rg_X6_40 C Z dX6_isNear_74 ?_
          refine lv_goto (tgt := 81) hx hb dX6_isNear_77 (by decide) ?_
          exact tn_i ev21 hj
      refine lv_icmp_ne (tgt := 54) hx hb dX6_isNear_44 (by decide) (fun c44 => ?_) (fun c44 => ?_)
      · rw [if_neg c44] at ev18
        refine lv_iconst (v := 0) hx hb dX6_isNear_54 (by decide) ?_
        exact tn_i ev18 hj
      · rw [if_pos c44] at ev18
        refine lv_aload_n hx hb dX6_isNear_47 rfl (lv_at hl 0 rfl) ?_
        refine rg_X6_36 C Z dX6_isNear_48 ?_
        refine lv_goto (tgt := 55) hx hb dX6_isNear_51 (by decide) ?_
        exact tn_i ev18 hj
set_option maxRecDepth 20000 in
theorem w_X6_isNear_0 {p : Program} {l : Launch} {e : Env} {s : State} {m : MethodId} {args : Array Value} {below : List Frame} {meth : Method} {c : Code} {Q : State → Prop} {D : va_G} {kc : Nat → ClassId} {ad : Nat → Nat} {A : Nat → Prop} {adK adV : Nat → Nat} (C : Cx (eC adK adV) p s m args c cX6_isNear 10 RX6 D kc A) {R : Int32} {x1 : Int32} {x2 : Int32} {x3 : Int32} {x4 : Int32} {x5 : Int32} {σ : St} (hR : RTi 0 0 p l e r_X6_isNear s m args below meth c cX6_isNear tC kc ad D A Q .boolean R σ) {H : Heap} {locs : List Loc} {ls : Array Slot} (Z : Dy tC kc ad D A s.heap σ H locs) (hl : lv_has ls 10 [(0, .ref (ad 1)), (1, .int x1), (2, .int x2), (3, .int x3), (4, .int x4), (5, .int x5)]) (h : f_X6_isNear x1 x2 x3 x4 x5 σ = some R) : W p l e r_X6_isNear s m args below meth c H locs 0 0 Q (F0 m 0 ls []) := by
  have hx := C.1.1
  have hb := C.1.2.1
  unfold f_X6_isNear at h
  refine lv_iload_n hx hb dX6_isNear_0 rfl (lv_at hl 1 rfl) ?_
  refine g_callNi (eC_ok adK adV) C Z (k_X10_isSide x1 σ) (C.2.2.2.1 _ nw_X6_32) lkn_X10_isSide hl (by decide) rfl (Nat.le_of_ble_eq_true rfl) (rest := []) rfl dX6_isNear_1 (fun H locs Z => ?_)
  refine lv_if_ne (tgt := 9) hx hb dX6_isNear_4 (by decide) (fun c4 => ?_) (fun c4 => ?_)
  · have h := im h c4
    refine lv_iload_n hx hb dX6_isNear_9 rfl (lv_at hl 1 rfl) ?_
    refine lv_bipush (v := 16) hx hb dX6_isNear_10 (by decide) ?_
    refine lv_imul hx hb dX6_isNear_12 ?_
    obtain ⟨v15, ev15, h⟩ := lb h
    refine tn_i ev15 ?_
    refine lv_istore (lv' := [(6, .int v15), (0, .ref (ad 1)), (1, .int x1), (2, .int x2), (3, .int x3), (4, .int x4), (5, .int x5)]) hx hb dX6_isNear_13 hl (by decide) rfl (fun ls hl => ?_)
    refine lv_iload hx hb dX6_isNear_15 (lv_at hl 0 rfl) ?_
    refine lv_istore (lv' := [(7, .int v15), (6, .int v15), (0, .ref (ad 1)), (1, .int x1), (2, .int x2), (3, .int x3), (4, .int x4), (5, .int x5)]) hx hb dX6_isNear_17 hl (by decide) rfl (fun ls hl => ?_)
    exact w_X6_isNear_19 C hR _ _ _ _ _ Z (lv_sub hl [2, 3, 4, 5, 6, 7, 1, 0] rfl) h
  · have h := ip h c4
    refine lv_iconst (v := 0) hx hb dX6_isNear_7 (by decide) ?_
    obtain rfl := Option.some.inj h
    exact hR _ _ _ _ _ Z dX6_isNear_8 rfl
theorem k_X6_isNear {l : Launch} {kc : Nat → ClassId} {ad : Nat → Nat} {D : va_G} {adK adV : Nat → Nat} {x1 : Int32} {x2 : Int32} {x3 : Int32} {x4 : Int32} {x5 : Int32} {σ : St} {R : Int32} (h : f_X6_isNear x1 x2 x3 x4 x5 σ = some R) : KC (eC adK adV) tC kc ad D l yX6_isNear (.code yX6_isNear cX6_isNear 10 (some .boolean)) r_X6_isNear [.ref (ad 1), .int x1, .int x2, .int x3, .int x4, .int x5] (some (.int R)) σ σ := by
  refine g_enter (by decide) (Nat.le_of_ble_eq_true rfl) ?_
  intro p e s m args below meth c A hA C hr hlocks Z ls hl
  have hl : lv_has ls 10 [(0, .ref (ad 1)), (1, .int x1), (2, .int x2), (3, .int x3), (4, .int x4), (5, .int x5)] := hl
  exact w_X6_isNear_0 C (g_RTi C.1.1 C.1.2.1 hr hlocks hA)  Z hl h
def r_X7_has : Room := { frames := 0, cells := 0, slots := 0, locals := 0 }
set_option maxRecDepth 20000 in
theorem w_X7_has_16 {p : Program} {l : Launch} {e : Env} {s : State} {m : MethodId} {args : Array Value} {below : List Frame} {meth : Method} {c : Code} {Q : State → Prop} {D : va_G} {kc : Nat → ClassId} {ad : Nat → Nat} {A : Nat → Prop} {adK adV : Nat → Nat} (C : Cx (eC adK adV) p s m args c cX7_has 2 RX7 D kc A) {R : Int32} {σ : St} (hR : RTi 0 0 p l e r_X7_has s m args below meth c cX7_has tC kc ad D A Q .boolean R σ) {H : Heap} {locs : List Loc} {ls : Array Slot} (Z : Dy tC kc ad D A s.heap σ H locs) (hl : lv_has ls 2 []) (h : f_X7_has_16 σ = R) : W p l e r_X7_has s m args below meth c H locs 0 0 Q (F0 m 16 ls []) := by
  have hx := C.1.1
  have hb := C.1.2.1
  unfold f_X7_has_16 at h
  refine lv_iconst (v := 0) hx hb dX7_has_16 (by decide) ?_
  subst h
  exact hR _ _ _ _ _ Z dX7_has_17 rfl
set_option maxRecDepth 20000 in
theorem w_X7_has_0 {p : Program} {l : Launch} {e : Env} {s : State} {m : MethodId} {args : Array Value} {below : List Frame} {meth : Method} {c : Code} {Q : State → Prop} {D : va_G} {kc : Nat → ClassId} {ad : Nat → Nat} {A : Nat → Prop} {adK adV : Nat → Nat} (C : Cx (eC adK adV) p s m args c cX7_has 2 RX7 D kc A) {R : Int32} {x1 : Int32} {σ : St} (hR : RTi 0 0 p l e r_X7_has s m args below meth c cX7_has tC kc ad D A Q .boolean R σ) {H : Heap} {locs : List Loc} {ls : Array Slot} (Z : Dy tC kc ad D A s.heap σ H locs) (hl : lv_has ls 2 [(0, .ref (ad 2)), (1, .int x1)]) (h : f_X7_has x1 σ = R) : W p l e r_X7_has s m args below meth c H locs 0 0 Q (F0 m 0 ls []) := by
  have hx := C.1.1
  have hb := C.1.2.1
  unfold f_X7_has at h
  refine lv_iload_n hx hb dX7_has_0 rfl (lv_at hl 1 rfl) ?_
  refine lv_if_lt (tgt := 16) hx hb dX7_has_1 (by decide) (fun c1 => ?_) (fun c1 => ?_)
  · have h := ip h c1
    exact w_X7_has_16 C hR Z (lv_sub hl [] rfl) h
  · have h := im h c1
    refine lv_iload_n hx hb dX7_has_4 rfl (lv_at hl 1 rfl) ?_
    refine lv_aload_n hx hb dX7_has_5 rfl (lv_at hl 0 rfl) ?_
    refine rg_X7_24 C Z dX7_has_6 ?_
    refine lv_icmp_ge (tgt := 16) hx hb dX7_has_9 (by decide) (fun c9 => ?_) (fun c9 => ?_)
    · have h := ip h c9
      exact w_X7_has_16 C hR Z (lv_sub hl [] rfl) h
    · have h := im h c9
      refine lv_iconst (v := 1) hx hb dX7_has_12 (by decide) ?_
      refine lv_goto (tgt := 17) hx hb dX7_has_13 (by decide) ?_
      subst h
      exact hR _ _ _ _ _ Z dX7_has_17 rfl
theorem k_X7_has {l : Launch} {kc : Nat → ClassId} {ad : Nat → Nat} {D : va_G} {adK adV : Nat → Nat} (x1 : Int32) (σ : St) : KC (eC adK adV) tC kc ad D l yX7_has (.code yX7_has cX7_has 2 (some .boolean)) r_X7_has [.ref (ad 2), .int x1] (some (.int (f_X7_has x1 σ))) σ σ := by
  refine g_enter (by decide) (Nat.le_of_ble_eq_true rfl) ?_
  intro p e s m args below meth c A hA C hr hlocks Z ls hl
  have hl : lv_has ls 2 [(0, .ref (ad 2)), (1, .int x1)] := hl
  exact w_X7_has_0 C (g_RTi C.1.1 C.1.2.1 hr hlocks hA)  Z hl rfl
def r_X7_add : Room := { frames := 0, cells := 0, slots := 0, locals := 0 }
set_option maxRecDepth 20000 in
theorem w_X7_add_0 {p : Program} {l : Launch} {e : Env} {s : State} {m : MethodId} {args : Array Value} {below : List Frame} {meth : Method} {c : Code} {Q : State → Prop} {D : va_G} {kc : Nat → ClassId} {ad : Nat → Nat} {A : Nat → Prop} {adK adV : Nat → Nat} (C : Cx (eC adK adV) p s m args c cX7_add 5 RX7 D kc A) {R : Int32 × St} {x1 : Int32} {x2 : Int32} {x3 : Int32} {x4 : Int32} {σ : St} (hR : RTi 0 0 p l e r_X7_add s m args below meth c cX7_add tC kc ad D A Q .int R.1 R.2) {H : Heap} {locs : List Loc} {ls : Array Slot} (Z : Dy tC kc ad D A s.heap σ H locs) (hl : lv_has ls 5 [(0, .ref (ad 2)), (1, .int x1), (2, .int x2), (3, .int x3), (4, .int x4)]) (h : f_X7_add x1 x2 x3 x4 σ = some R) : W p l e r_X7_add s m args below meth c H locs 0 0 Q (F0 m 0 ls []) := by
  have hx := C.1.1
  have hb := C.1.2.1
  unfold f_X7_add at h
  refine lv_aload_n hx hb dX7_add_0 rfl (lv_at hl 0 rfl) ?_
  refine rg_X7_24 C Z dX7_add_1 ?_
  refine lv_bipush (v := 40) hx hb dX7_add_4 (by decide) ?_
  refine lv_icmp_lt (tgt := 11) hx hb dX7_add_6 (by decide) (fun c6 => ?_) (fun c6 => ?_)
  · have h := ip h c6
    refine lv_aload_n hx hb dX7_add_11 rfl (lv_at hl 0 rfl) ?_
    refine rg_X7_11 C Z dX7_add_12 ?_
    refine lv_aload_n hx hb dX7_add_15 rfl (lv_at hl 0 rfl) ?_
    refine rg_X7_24 C Z dX7_add_16 ?_
    refine lv_iload_n hx hb dX7_add_19 rfl (lv_at hl 1 rfl) ?_
    obtain ⟨σ11, hσ11, h⟩ := ob h
    refine g_iast C Z iaC18 hσ11 dX7_add_20 (fun H locs Z => ?_)
    refine lv_aload_n hx hb dX7_add_21 rfl (lv_at hl 0 rfl) ?_
    refine rg_X7_15 C Z dX7_add_22 ?_
    refine lv_aload_n hx hb dX7_add_25 rfl (lv_at hl 0 rfl) ?_
    refine rg_X7_24 C Z dX7_add_26 ?_
    refine lv_iload_n hx hb dX7_add_29 rfl (lv_at hl 2 rfl) ?_
    obtain ⟨σ12, hσ12, h⟩ := ob h
    refine g_iast C Z iaC19 hσ12 dX7_add_30 (fun H locs Z => ?_)
    refine lv_aload_n hx hb dX7_add_31 rfl (lv_at hl 0 rfl) ?_
    refine rg_X7_18 C Z dX7_add_32 ?_
    refine lv_aload_n hx hb dX7_add_35 rfl (lv_at hl 0 rfl) ?_
    refine rg_X7_24 C Z dX7_add_36 ?_
    refine lv_iload_n hx hb dX7_add_39 rfl (lv_at hl 3 rfl) ?_
    obtain ⟨σ13, hσ13, h⟩ := ob h
    refine g_iast C Z iaC20 hσ13 dX7_add_40 (fun H locs Z => ?_)
    refine lv_aload_n hx hb dX7_add_41 rfl (lv_at hl 0 rfl) ?_
    refine rg_X7_21 C Z dX7_add_42 ?_
    refine lv_aload_n hx hb dX7_add_45 rfl (lv_at hl 0 rfl) ?_
    refine rg_X7_24 C Z dX7_add_46 ?_
    refine lv_iload hx hb dX7_add_49 (lv_at hl 4 rfl) ?_
    obtain ⟨σ14, hσ14, h⟩ := ob h
    refine g_iast C Z iaC21 hσ14 dX7_add_51 (fun H locs Z => ?_)
    refine lv_aload_n hx hb dX7_add_52 rfl (lv_at hl 0 rfl) ?_
    refine lv_dup hx hb dX7_add_53 rfl ?_
    refine rg_X7_24 C Z dX7_add_54 ?_
    refine lv_iconst (v := 1) hx hb dX7_add_57 (by decide) ?_
    refine lv_iadd hx hb dX7_add_58 ?_
    obtain ⟨σ15, eσ15, h⟩ := lb h
    refine rp_X7_24 C Z eσ15 dX7_add_59 (fun H locs Z => ?_)
    refine lv_aload_n hx hb dX7_add_62 rfl (lv_at hl 0 rfl) ?_
    refine rg_X7_24 C Z dX7_add_63 ?_
    refine lv_iconst (v := 1) hx hb dX7_add_66 (by decide) ?_
    refine lv_isub hx hb dX7_add_67 ?_
    obtain rfl := Option.some.inj h
    exact hR _ _ _ _ _ Z dX7_add_68 rfl
  · have h := im h c6
    refine lv_iconst (v := (-1)) hx hb dX7_add_9 (by decide) ?_
    obtain rfl := Option.some.inj h
    exact hR _ _ _ _ _ Z dX7_add_10 rfl
theorem k_X7_add {l : Launch} {kc : Nat → ClassId} {ad : Nat → Nat} {D : va_G} {adK adV : Nat → Nat} {x1 : Int32} {x2 : Int32} {x3 : Int32} {x4 : Int32} {σ : St} {R : Int32 × St} (h : f_X7_add x1 x2 x3 x4 σ = some R) : KC (eC adK adV) tC kc ad D l yX7_add (.code yX7_add cX7_add 5 (some .int)) r_X7_add [.ref (ad 2), .int x1, .int x2, .int x3, .int x4] (some (.int R.1)) σ R.2 := by
  refine g_enter (by decide) (Nat.le_of_ble_eq_true rfl) ?_
  intro p e s m args below meth c A hA C hr hlocks Z ls hl
  have hl : lv_has ls 5 [(0, .ref (ad 2)), (1, .int x1), (2, .int x2), (3, .int x3), (4, .int x4)] := hl
  exact w_X7_add_0 C (g_RTi C.1.1 C.1.2.1 hr hlocks hA)  Z hl h
def r_X8_isYear : Room := { frames := 1, cells := 0, slots := 0, locals := 22 }
set_option maxRecDepth 20000 in
theorem w_X8_isYear_0 {p : Program} {l : Launch} {e : Env} {s : State} {m : MethodId} {args : Array Value} {below : List Frame} {meth : Method} {c : Code} {Q : State → Prop} {D : va_G} {kc : Nat → ClassId} {ad : Nat → Nat} {A : Nat → Prop} {adK adV : Nat → Nat} (C : Cx (eC adK adV) p s m args c cX8_isYear 1 RX8 D kc A) {R : Int32} {x0 : Int32} {σ : St} (hR : RTi 0 0 p l e r_X8_isYear s m args below meth c cX8_isYear tC kc ad D A Q .boolean R σ) {H : Heap} {locs : List Loc} {ls : Array Slot} (Z : Dy tC kc ad D A s.heap σ H locs) (hl : lv_has ls 1 [(0, .int x0)]) (h : f_X8_isYear x0 = R) : W p l e r_X8_isYear s m args below meth c H locs 0 0 Q (F0 m 0 ls []) := by
  have hx := C.1.1
  have hb := C.1.2.1
  unfold f_X8_isYear at h
  refine lv_iload_n hx hb dX8_isYear_0 rfl (lv_at hl 0 rfl) ?_
  refine lv_iconst (v := 0) hx hb dX8_isYear_1 (by decide) ?_
  refine lv_bipush (v := 39) hx hb dX8_isYear_2 (by decide) ?_
  refine g_callNi (eC_ok adK adV) C Z (k_X10_lies x0 0 39 σ) (C.2.2.2.1 _ nw_X8_37) lkn_X10_lies hl (by decide) rfl (Nat.le_of_ble_eq_true rfl) (rest := []) rfl dX8_isYear_4 (fun H locs Z => ?_)
  subst h
  exact hR _ _ _ _ _ Z dX8_isYear_7 (nar_b _)
theorem k_X8_isYear {l : Launch} {kc : Nat → ClassId} {ad : Nat → Nat} {D : va_G} {adK adV : Nat → Nat} (x0 : Int32) (σ : St) : KC (eC adK adV) tC kc ad D l yX8_isYear (.code yX8_isYear cX8_isYear 1 (some .boolean)) r_X8_isYear [.int x0] (some (.int (f_X8_isYear x0))) σ σ := by
  refine g_enter (by decide) (Nat.le_of_ble_eq_true rfl) ?_
  intro p e s m args below meth c A hA C hr hlocks Z ls hl
  have hl : lv_has ls 1 [(0, .int x0)] := hl
  exact w_X8_isYear_0 C (g_RTi C.1.1 C.1.2.1 hr hlocks hA)  Z hl rfl
def r_X8_changeYear : Room := { frames := 2, cells := 0, slots := 0, locals := 42 }
set_option maxRecDepth 20000 in
theorem w_X8_changeYear_0 {p : Program} {l : Launch} {e : Env} {s : State} {m : MethodId} {args : Array Value} {below : List Frame} {meth : Method} {c : Code} {Q : State → Prop} {D : va_G} {kc : Nat → ClassId} {ad : Nat → Nat} {A : Nat → Prop} {adK adV : Nat → Nat} (C : Cx (eC adK adV) p s m args c cX8_changeYear 5 RX8 D kc A) {R : Int32 × St} {x1 : Int32} {x2 : Int32} {x3 : Int32} {σ : St} (hR : RTi 0 0 p l e r_X8_changeYear s m args below meth c cX8_changeYear tC kc ad D A Q .int R.1 R.2) {H : Heap} {locs : List Loc} {ls : Array Slot} (Z : Dy tC kc ad D A s.heap σ H locs) (hl : lv_has ls 5 [(0, .ref (ad 7)), (1, .int x1), (2, .int x2), (3, .int x3)]) (h : f_X8_changeYear x1 x2 x3 σ = some R) : W p l e r_X8_changeYear s m args below meth c H locs 0 0 Q (F0 m 0 ls []) := by
  have hx := C.1.1
  have hb := C.1.2.1
  unfold f_X8_changeYear at h
  refine lv_iload_n hx hb dX8_changeYear_0 rfl (lv_at hl 1 rfl) ?_
  refine lv_iconst (v := 0) hx hb dX8_changeYear_1 (by decide) ?_
  refine lv_iconst (v := 2) hx hb dX8_changeYear_2 (by decide) ?_
  refine g_callNi (eC_ok adK adV) C Z (k_X10_lies x1 0 2 σ) (C.2.2.2.1 _ nw_X8_37) lkn_X10_lies hl (by decide) rfl (Nat.le_of_ble_eq_true rfl) (rest := []) rfl dX8_changeYear_3 (fun H locs Z => ?_)
  refine lv_if_eq (tgt := 16) hx hb dX8_changeYear_6 (by decide) (fun c6 => ?_) (fun c6 => ?_)
  · have h := ip h c6
    refine lv_iconst (v := (-1)) hx hb dX8_changeYear_16 (by decide) ?_
    obtain rfl := Option.some.inj h
    exact hR _ _ _ _ _ Z dX8_changeYear_17 rfl
  · have h := im h c6
    refine lv_iload_n hx hb dX8_changeYear_9 rfl (lv_at hl 2 rfl) ?_
    refine g_callSi (eC_ok adK adV) C Z (k_X8_isYear x2 σ) lk_X8_41 hl (by decide) rfl (Nat.le_of_ble_eq_true rfl) (rest := []) rfl dX8_changeYear_10 (fun H locs Z => ?_)
    refine lv_if_ne (tgt := 18) hx hb dX8_changeYear_13 (by decide) (fun c13 => ?_) (fun c13 => ?_)
    · have h := im h c13
      refine lv_aload_n hx hb dX8_changeYear_18 rfl (lv_at hl 0 rfl) ?_
      refine rg_X8_18 C Z dX8_changeYear_19 ?_
      refine lv_iload_n hx hb dX8_changeYear_22 rfl (lv_at hl 1 rfl) ?_
      refine lv_bipush (v := 40) hx hb dX8_changeYear_23 (by decide) ?_
      refine lv_imul hx hb dX8_changeYear_25 ?_
      refine lv_iload_n hx hb dX8_changeYear_26 rfl (lv_at hl 2 rfl) ?_
      refine lv_iadd hx hb dX8_changeYear_27 ?_
      obtain ⟨v5, hv5, h⟩ := ob h
      refine g_iald C Z iaC52 hv5 dX8_changeYear_28 ?_
      refine lv_istore (lv' := [(4, .int v5), (0, .ref (ad 7)), (1, .int x1), (2, .int x2), (3, .int x3)]) hx hb dX8_changeYear_29 hl (by decide) rfl (fun ls hl => ?_)
      refine lv_aload_n hx hb dX8_changeYear_31 rfl (lv_at hl 1 rfl) ?_
      refine rg_X8_18 C Z dX8_changeYear_32 ?_
      refine lv_iload_n hx hb dX8_changeYear_35 rfl (lv_at hl 2 rfl) ?_
      refine lv_bipush (v := 40) hx hb dX8_changeYear_36 (by decide) ?_
      refine lv_imul hx hb dX8_changeYear_38 ?_
      refine lv_iload_n hx hb dX8_changeYear_39 rfl (lv_at hl 3 rfl) ?_
      refine lv_iadd hx hb dX8_changeYear_40 ?_
      refine lv_iload_n hx hb dX8_changeYear_41 rfl (lv_at hl 4 rfl) ?_
      obtain ⟨σ6, hσ6, h⟩ := ob h
      refine g_iast C Z iaC52 hσ6 dX8_changeYear_42 (fun H locs Z => ?_)
      refine lv_iload hx hb dX8_changeYear_43 (lv_at hl 0 rfl) ?_
      obtain rfl := Option.some.inj h
      exact hR _ _ _ _ _ Z dX8_changeYear_45 rfl
    · have h := ip h c13
      refine lv_iconst (v := (-1)) hx hb dX8_changeYear_16 (by decide) ?_
      obtain rfl := Option.some.inj h
      exact hR _ _ _ _ _ Z dX8_changeYear_17 rfl
theorem k_X8_changeYear {l : Launch} {kc : Nat → ClassId} {ad : Nat → Nat} {D : va_G} {adK adV : Nat → Nat} {x1 : Int32} {x2 : Int32} {x3 : Int32} {σ : St} {R : Int32 × St} (h : f_X8_changeYear x1 x2 x3 σ = some R) : KC (eC adK adV) tC kc ad D l yX8_changeYear (.code yX8_changeYear cX8_changeYear 5 (some .int)) r_X8_changeYear [.ref (ad 7), .int x1, .int x2, .int x3] (some (.int R.1)) σ R.2 := by
  refine g_enter (by decide) (Nat.le_of_ble_eq_true rfl) ?_
  intro p e s m args below meth c A hA C hr hlocks Z ls hl
  have hl : lv_has ls 5 [(0, .ref (ad 7)), (1, .int x1), (2, .int x2), (3, .int x3)] := hl
  exact w_X8_changeYear_0 C (g_RTi C.1.1 C.1.2.1 hr hlocks hA)  Z hl h
def r_X8_toldOf : Room := { frames := 2, cells := 0, slots := 0, locals := 42 }
set_option maxRecDepth 20000 in
theorem w_X8_toldOf_30 {p : Program} {l : Launch} {e : Env} {s : State} {m : MethodId} {args : Array Value} {below : List Frame} {meth : Method} {c : Code} {Q : State → Prop} {D : va_G} {kc : Nat → ClassId} {ad : Nat → Nat} {A : Nat → Prop} {adK adV : Nat → Nat} (C : Cx (eC adK adV) p s m args c cX8_toldOf 3 RX8 D kc A) {R : Int32} {σ : St} (hR : RTi 0 0 p l e r_X8_toldOf s m args below meth c cX8_toldOf tC kc ad D A Q .int R σ) {H : Heap} {locs : List Loc} {ls : Array Slot} (Z : Dy tC kc ad D A s.heap σ H locs) (hl : lv_has ls 3 []) (h : f_X8_toldOf_30 σ = some R) : W p l e r_X8_toldOf s m args below meth c H locs 0 0 Q (F0 m 30 ls []) := by
  have hx := C.1.1
  have hb := C.1.2.1
  unfold f_X8_toldOf_30 at h
  refine lv_iconst (v := 0) hx hb dX8_toldOf_30 (by decide) ?_
  obtain rfl := Option.some.inj h
  exact hR _ _ _ _ _ Z dX8_toldOf_31 rfl
set_option maxRecDepth 20000 in
theorem w_X8_toldOf_0 {p : Program} {l : Launch} {e : Env} {s : State} {m : MethodId} {args : Array Value} {below : List Frame} {meth : Method} {c : Code} {Q : State → Prop} {D : va_G} {kc : Nat → ClassId} {ad : Nat → Nat} {A : Nat → Prop} {adK adV : Nat → Nat} (C : Cx (eC adK adV) p s m args c cX8_toldOf 3 RX8 D kc A) {R : Int32} {x1 : Int32} {x2 : Int32} {σ : St} (hR : RTi 0 0 p l e r_X8_toldOf s m args below meth c cX8_toldOf tC kc ad D A Q .int R σ) {H : Heap} {locs : List Loc} {ls : Array Slot} (Z : Dy tC kc ad D A s.heap σ H locs) (hl : lv_has ls 3 [(0, .ref (ad 7)), (1, .int x1), (2, .int x2)]) (h : f_X8_toldOf x1 x2 σ = some R) : W p l e r_X8_toldOf s m args below meth c H locs 0 0 Q (F0 m 0 ls []) := by
  have hx := C.1.1
  have hb := C.1.2.1
  unfold f_X8_toldOf at h
  refine lv_iload_n hx hb dX8_toldOf_0 rfl (lv_at hl 1 rfl) ?_
  refine lv_iconst (v := 0) hx hb dX8_toldOf_1 (by decide) ?_
  refine lv_iconst (v := 2) hx hb dX8_toldOf_2 (by decide) ?_
  refine g_callNi (eC_ok adK adV) C Z (k_X10_lies x1 0 2 σ) (C.2.2.2.1 _ nw_X8_37) lkn_X10_lies hl (by decide) rfl (Nat.le_of_ble_eq_true rfl) (rest := []) rfl dX8_toldOf_3 (fun H locs Z => ?_)
  refine lv_if_eq (tgt := 30) hx hb dX8_toldOf_6 (by decide) (fun c6 => ?_) (fun c6 => ?_)
  · have h := ip h c6
    exact w_X8_toldOf_30 C hR Z (lv_sub hl [] rfl) h
  · have h := im h c6
    refine lv_iload_n hx hb dX8_toldOf_9 rfl (lv_at hl 2 rfl) ?_
    refine g_callSi (eC_ok adK adV) C Z (k_X8_isYear x2 σ) lk_X8_41 hl (by decide) rfl (Nat.le_of_ble_eq_true rfl) (rest := []) rfl dX8_toldOf_10 (fun H locs Z => ?_)
    refine lv_if_eq (tgt := 30) hx hb dX8_toldOf_13 (by decide) (fun c13 => ?_) (fun c13 => ?_)
    · have h := ip h c13
      exact w_X8_toldOf_30 C hR Z (lv_sub hl [] rfl) h
    · have h := im h c13
      refine lv_aload_n hx hb dX8_toldOf_16 rfl (lv_at hl 0 rfl) ?_
      refine rg_X8_18 C Z dX8_toldOf_17 ?_
      refine lv_iload_n hx hb dX8_toldOf_20 rfl (lv_at hl 1 rfl) ?_
      refine lv_bipush (v := 40) hx hb dX8_toldOf_21 (by decide) ?_
      refine lv_imul hx hb dX8_toldOf_23 ?_
      refine lv_iload_n hx hb dX8_toldOf_24 rfl (lv_at hl 2 rfl) ?_
      refine lv_iadd hx hb dX8_toldOf_25 ?_
      obtain ⟨v3, hv3, h⟩ := ob h
      refine g_iald C Z iaC52 hv3 dX8_toldOf_26 ?_
      refine lv_goto (tgt := 31) hx hb dX8_toldOf_27 (by decide) ?_
      obtain rfl := Option.some.inj h
      exact hR _ _ _ _ _ Z dX8_toldOf_31 rfl
theorem k_X8_toldOf {l : Launch} {kc : Nat → ClassId} {ad : Nat → Nat} {D : va_G} {adK adV : Nat → Nat} {x1 : Int32} {x2 : Int32} {σ : St} {R : Int32} (h : f_X8_toldOf x1 x2 σ = some R) : KC (eC adK adV) tC kc ad D l yX8_toldOf (.code yX8_toldOf cX8_toldOf 3 (some .int)) r_X8_toldOf [.ref (ad 7), .int x1, .int x2] (some (.int R)) σ σ := by
  refine g_enter (by decide) (Nat.le_of_ble_eq_true rfl) ?_
  intro p e s m args below meth c A hA C hr hlocks Z ls hl
  have hl : lv_has ls 3 [(0, .ref (ad 7)), (1, .int x1), (2, .int x2)] := hl
  exact w_X8_toldOf_0 C (g_RTi C.1.1 C.1.2.1 hr hlocks hA)  Z hl h
def r_X8_nextStock : Room := { frames := 3, cells := 0, slots := 0, locals := 64 }
set_option maxRecDepth 20000 in
theorem w_X8_nextStock_0 {p : Program} {l : Launch} {e : Env} {s : State} {m : MethodId} {args : Array Value} {below : List Frame} {meth : Method} {c : Code} {Q : State → Prop} {D : va_G} {kc : Nat → ClassId} {ad : Nat → Nat} {A : Nat → Prop} {adK adV : Nat → Nat} (C : Cx (eC adK adV) p s m args c cX8_nextStock 8 RX8 D kc A) {R : Int64} {x1 : Int32} {x2 : Int32} {x3 : Int32} {x4 : Int64} {σ : St} (hR : RTl 0 0 p l e r_X8_nextStock s m args below meth c cX8_nextStock tC kc ad D A Q R σ) {H : Heap} {locs : List Loc} {ls : Array Slot} (Z : Dy tC kc ad D A s.heap σ H locs) (hl : lv_has ls 8 [(0, .ref (ad 7)), (1, .int x1), (2, .int x2), (3, .int x3), (4, .long x4)]) (h : f_X8_nextStock x1 x2 x3 x4 σ = some R) : W p l e r_X8_nextStock s m args below meth c H locs 0 0 Q (F0 m 0 ls []) := by
  have hx := C.1.1
  have hb := C.1.2.1
  unfold f_X8_nextStock at h
  refine lv_lconst (v := 0) hx hb dX8_nextStock_0 (by decide) ?_
  refine lv_lload hx hb dX8_nextStock_1 (lv_at hl 4 rfl) ?_
  refine lv_aload_n hx hb dX8_nextStock_3 rfl (lv_at hl 0 rfl) ?_
  refine lv_iconst (v := 2) hx hb dX8_nextStock_4 (by decide) ?_
  refine lv_iload_n hx hb dX8_nextStock_5 rfl (lv_at hl 2 rfl) ?_
  obtain ⟨v4, hv4, h⟩ := ob h
  refine g_callVi (eC_ok adK adV) C Z (k_X8_toldOf hv4) lk_X8_45 (by decide) rfl rfl hl (by decide) rfl (Nat.le_of_ble_eq_true rfl) (rest := [.long x4, .long 0]) rfl dX8_nextStock_6 (fun H locs Z => ?_)
  refine lv_i2l (v := v4.toInt64) hx hb dX8_nextStock_9 rfl ?_
  refine lv_lsub hx hb dX8_nextStock_10 ?_
  refine g_max_f86c9 C hl wM_X8_49 (by decide) (rest := []) (Nat.le_of_ble_eq_true rfl) dX8_nextStock_11 ?_
  obtain ⟨v5, ev5, h⟩ := lb h
  refine tn_l ev5 ?_
  refine lv_lstore (lv' := [(6, .long v5), (0, .ref (ad 7)), (1, .int x1), (2, .int x2), (3, .int x3), (4, .long x4)]) hx hb dX8_nextStock_14 hl (by decide) rfl (fun ls hl => ?_)
  refine lv_lload hx hb dX8_nextStock_16 (lv_at hl 0 rfl) ?_
  refine lv_sipush (v := 1000) hx hb dX8_nextStock_18 (by decide) ?_
  refine lv_iload_n hx hb dX8_nextStock_21 rfl (lv_at hl 4 rfl) ?_
  refine lv_isub hx hb dX8_nextStock_22 ?_
  refine lv_i2l (v := (1000 - x3).toInt64) hx hb dX8_nextStock_23 rfl ?_
  refine lv_lmul hx hb dX8_nextStock_24 ?_
  refine lv_ldc2 (v := 1000) hx hb C.1.2.2.2.1 (C.1.2.2.2.2 _ wDL_X8_55) dX8_nextStock_25 ?_
  refine lv_ldiv hx hb dX8_nextStock_28 (by decide) ?_
  refine lv_aload_n hx hb dX8_nextStock_29 rfl (lv_at hl 1 rfl) ?_
  refine lv_iload_n hx hb dX8_nextStock_30 rfl (lv_at hl 2 rfl) ?_
  refine lv_iload_n hx hb dX8_nextStock_31 rfl (lv_at hl 3 rfl) ?_
  obtain ⟨v6, hv6, h⟩ := ob h
  refine g_callVi (eC_ok adK adV) C Z (k_X8_toldOf hv6) lk_X8_45 (by decide) rfl rfl hl (by decide) rfl (Nat.le_of_ble_eq_true rfl) (rest := [.long ((v5 * ((1000 - x3).toInt64)) / 1000)]) rfl dX8_nextStock_32 (fun H locs Z => ?_)
  refine lv_i2l (v := v6.toInt64) hx hb dX8_nextStock_35 rfl ?_
  refine lv_ladd hx hb dX8_nextStock_36 ?_
  obtain rfl := Option.some.inj h
  exact hR _ _ _ _ Z dX8_nextStock_37
theorem k_X8_nextStock {l : Launch} {kc : Nat → ClassId} {ad : Nat → Nat} {D : va_G} {adK adV : Nat → Nat} {x1 : Int32} {x2 : Int32} {x3 : Int32} {x4 : Int64} {σ : St} {R : Int64} (h : f_X8_nextStock x1 x2 x3 x4 σ = some R) : KC (eC adK adV) tC kc ad D l yX8_nextStock (.code yX8_nextStock cX8_nextStock 8 (some .long)) r_X8_nextStock [.ref (ad 7), .int x1, .int x2, .int x3, .long x4] (some (.long R)) σ σ := by
  refine g_enter (by decide) (Nat.le_of_ble_eq_true rfl) ?_
  intro p e s m args below meth c A hA C hr hlocks Z ls hl
  have hl : lv_has ls 8 [(0, .ref (ad 7)), (1, .int x1), (2, .int x2), (3, .int x3), (4, .long x4)] := hl
  exact w_X8_nextStock_0 C (g_RTl C.1.1 C.1.2.1 hr hlocks hA)  Z hl h
def r_X8_stockWith : Room := { frames := 4, cells := 0, slots := 0, locals := 91 }
set_option maxRecDepth 20000 in
theorem w_X8_stockWith_25 {p : Program} {l : Launch} {e : Env} {s : State} {m : MethodId} {args : Array Value} {below : List Frame} {meth : Method} {c : Code} {Q : State → Prop} {D : va_G} {kc : Nat → ClassId} {ad : Nat → Nat} {A : Nat → Prop} {adK adV : Nat → Nat} (C : Cx (eC adK adV) p s m args c cX8_stockWith 7 RX8 D kc A) {R : Int64} {x1 : Int32} {x2 : Int32} {x3 : Int32} {σ : St} (hR : RTl 0 0 p l e r_X8_stockWith s m args below meth c cX8_stockWith tC kc ad D A Q R σ) : ∀ (n : Nat) (x4 : Int64) (x6 : Int32) (H : Heap) (locs : List Loc) (ls : Array Slot), Dy tC kc ad D A s.heap σ H locs → lv_has ls 7 [(0, .ref (ad 7)), (1, .int x1), (2, .int x2), (3, .int x3), (4, .long x4), (6, .int x6)] → f_X8_stockWith_25 x1 x2 x3 σ n x4 x6 = some R → W p l e r_X8_stockWith s m args below meth c H locs 0 0 Q (F0 m 25 ls []) := by
  have hx := C.1.1
  have hb := C.1.2.1
  intro n
  induction n with
  | zero =>
    intro x4 x6 H locs ls Z hl h
    exact absurd (show none = some R from h) (by simp)
  | succ n ih =>
    intro x4 x6 H locs ls Z hl h
    rw [f_X8_stockWith_25] at h
    refine lv_iload hx hb dX8_stockWith_25 (lv_at hl 5 rfl) ?_
    refine lv_iload_n hx hb dX8_stockWith_27 rfl (lv_at hl 2 rfl) ?_
    refine lv_icmp_ge (tgt := 49) hx hb dX8_stockWith_28 (by decide) (fun c28 => ?_) (fun c28 => ?_)
    · have h := ip h c28
      refine lv_lload hx hb dX8_stockWith_49 (lv_at hl 4 rfl) ?_
      obtain rfl := Option.some.inj h
      exact hR _ _ _ _ Z dX8_stockWith_51
    · have h := im h c28
      refine lv_aload_n hx hb dX8_stockWith_31 rfl (lv_at hl 0 rfl) ?_
      refine lv_iload_n hx hb dX8_stockWith_32 rfl (lv_at hl 1 rfl) ?_
      refine lv_iload hx hb dX8_stockWith_33 (lv_at hl 5 rfl) ?_
      refine lv_iload_n hx hb dX8_stockWith_35 rfl (lv_at hl 3 rfl) ?_
      refine lv_lload hx hb dX8_stockWith_36 (lv_at hl 4 rfl) ?_
      obtain ⟨v8, hv8, h⟩ := ob h
      refine g_callVl (eC_ok adK adV) C Z (k_X8_nextStock hv8) lk_X8_59 (by decide) rfl rfl hl (by decide) rfl (Nat.le_of_ble_eq_true rfl) (rest := []) rfl dX8_stockWith_38 (fun H locs Z => ?_)
      refine lv_lstore (lv' := [(4, .long v8), (0, .ref (ad 7)), (1, .int x1), (2, .int x2), (3, .int x3), (6, .int x6)]) hx hb dX8_stockWith_41 hl (by decide) rfl (fun ls hl => ?_)
      obtain ⟨v9, ev9, h⟩ := lb h
      refine lv_iinc (v := v9) (lv' := [(6, .int v9), (4, .long v8), (0, .ref (ad 7)), (1, .int x1), (2, .int x2), (3, .int x3)]) hx hb dX8_stockWith_43 hl (k := 5) rfl (by rw [ev9]; rfl) (by decide) rfl (fun ls hl => ?_)
      refine lv_goto (tgt := 25) hx hb dX8_stockWith_46 (by decide) ?_
      exact ih _ _ _ _ _ Z (lv_sub hl [2, 3, 4, 5, 1, 0] rfl) h
set_option maxRecDepth 20000 in
theorem w_X8_stockWith_0 {p : Program} {l : Launch} {e : Env} {s : State} {m : MethodId} {args : Array Value} {below : List Frame} {meth : Method} {c : Code} {Q : State → Prop} {D : va_G} {kc : Nat → ClassId} {ad : Nat → Nat} {A : Nat → Prop} {adK adV : Nat → Nat} (C : Cx (eC adK adV) p s m args c cX8_stockWith 7 RX8 D kc A) {R : Int64} {x1 : Int32} {x2 : Int32} {x3 : Int32} {σ : St} (hR : RTl 0 0 p l e r_X8_stockWith s m args below meth c cX8_stockWith tC kc ad D A Q R σ) {H : Heap} {locs : List Loc} {ls : Array Slot} (Z : Dy tC kc ad D A s.heap σ H locs) (hl : lv_has ls 7 [(0, .ref (ad 7)), (1, .int x1), (2, .int x2), (3, .int x3)]) (h : f_X8_stockWith x1 x2 x3 σ = some R) : W p l e r_X8_stockWith s m args below meth c H locs 0 0 Q (F0 m 0 ls []) := by
  have hx := C.1.1
  have hb := C.1.2.1
  unfold f_X8_stockWith at h
  refine lv_iload_n hx hb dX8_stockWith_0 rfl (lv_at hl 1 rfl) ?_
  refine lv_iconst (v := 0) hx hb dX8_stockWith_1 (by decide) ?_
  refine lv_iconst (v := 1) hx hb dX8_stockWith_2 (by decide) ?_
  refine g_callNi (eC_ok adK adV) C Z (k_X10_lies x1 0 1 σ) (C.2.2.2.1 _ nw_X8_37) lkn_X10_lies hl (by decide) rfl (Nat.le_of_ble_eq_true rfl) (rest := []) rfl dX8_stockWith_3 (fun H locs Z => ?_)
  refine lv_if_ne (tgt := 13) hx hb dX8_stockWith_6 (by decide) (fun c6 => ?_) (fun c6 => ?_)
  · have h := im h c6
    refine lv_aload_n hx hb dX8_stockWith_13 rfl (lv_at hl 0 rfl) ?_
    refine rg_X8_9 C Z dX8_stockWith_14 ?_
    refine lv_iload_n hx hb dX8_stockWith_17 rfl (lv_at hl 1 rfl) ?_
    obtain ⟨v7, hv7, h⟩ := ob h
    refine g_iald C Z iaC50 hv7 dX8_stockWith_18 ?_
    refine lv_i2l (v := v7.toInt64) hx hb dX8_stockWith_19 rfl ?_
    refine lv_lstore (lv' := [(4, .long v7.toInt64), (0, .ref (ad 7)), (1, .int x1), (2, .int x2), (3, .int x3)]) hx hb dX8_stockWith_20 hl (by decide) rfl (fun ls hl => ?_)
    refine lv_iconst (v := 0) hx hb dX8_stockWith_22 (by decide) ?_
    refine lv_istore (lv' := [(6, .int 0), (4, .long v7.toInt64), (0, .ref (ad 7)), (1, .int x1), (2, .int x2), (3, .int x3)]) hx hb dX8_stockWith_23 hl (by decide) rfl (fun ls hl => ?_)
    exact w_X8_stockWith_25 C hR _ _ _ _ _ _ Z (lv_sub hl [2, 3, 4, 5, 1, 0] rfl) h
  · have h := ip h c6
    refine lv_ldc2 (v := (-1)) hx hb C.1.2.2.2.1 (C.1.2.2.2.2 _ wDL_X8_57) dX8_stockWith_9 ?_
    obtain rfl := Option.some.inj h
    exact hR _ _ _ _ Z dX8_stockWith_12
theorem k_X8_stockWith {l : Launch} {kc : Nat → ClassId} {ad : Nat → Nat} {D : va_G} {adK adV : Nat → Nat} {x1 : Int32} {x2 : Int32} {x3 : Int32} {σ : St} {R : Int64} (h : f_X8_stockWith x1 x2 x3 σ = some R) : KC (eC adK adV) tC kc ad D l yX8_stockWith (.code yX8_stockWith cX8_stockWith 7 (some .long)) r_X8_stockWith [.ref (ad 7), .int x1, .int x2, .int x3] (some (.long R)) σ σ := by
  refine g_enter (by decide) (Nat.le_of_ble_eq_true rfl) ?_
  intro p e s m args below meth c A hA C hr hlocks Z ls hl
  have hl : lv_has ls 7 [(0, .ref (ad 7)), (1, .int x1), (2, .int x2), (3, .int x3)] := hl
  exact w_X8_stockWith_0 C (g_RTl C.1.1 C.1.2.1 hr hlocks hA)  Z hl h
def r_X8_failsIn : Room := { frames := 4, cells := 0, slots := 0, locals := 91 }
set_option maxRecDepth 20000 in
theorem w_X8_failsIn_22 {p : Program} {l : Launch} {e : Env} {s : State} {m : MethodId} {args : Array Value} {below : List Frame} {meth : Method} {c : Code} {Q : State → Prop} {D : va_G} {kc : Nat → ClassId} {ad : Nat → Nat} {A : Nat → Prop} {adK adV : Nat → Nat} (C : Cx (eC adK adV) p s m args c cX8_failsIn 5 RX8 D kc A) {R : Int32} {x1 : Int32} {σ : St} (hR : RTi 0 0 p l e r_X8_failsIn s m args below meth c cX8_failsIn tC kc ad D A Q .int R σ) : ∀ (n : Nat) (x2 : Int64) (x4 : Int32) (H : Heap) (locs : List Loc) (ls : Array Slot), Dy tC kc ad D A s.heap σ H locs → lv_has ls 5 [(0, .ref (ad 7)), (1, .int x1), (2, .long x2), (4, .int x4)] → f_X8_failsIn_22 x1 σ n x2 x4 = some R → W p l e r_X8_failsIn s m args below meth c H locs 0 0 Q (F0 m 22 ls []) := by
  have hx := C.1.1
  have hb := C.1.2.1
  intro n
  induction n with
  | zero =>
    intro x2 x4 H locs ls Z hl h
    exact absurd (show none = some R from h) (by simp)
  | succ n ih =>
    intro x2 x4 H locs ls Z hl h
    rw [f_X8_failsIn_22] at h
    refine lv_iload hx hb dX8_failsIn_22 (lv_at hl 3 rfl) ?_
    refine lv_bipush (v := 40) hx hb dX8_failsIn_24 (by decide) ?_
    refine lv_icmp_ge (tgt := 66) hx hb dX8_failsIn_26 (by decide) (fun c26 => ?_) (fun c26 => ?_)
    · have h := ip h c26
      refine lv_bipush (v := (-2)) hx hb dX8_failsIn_66 (by decide) ?_
      obtain rfl := Option.some.inj h
      exact hR _ _ _ _ _ Z dX8_failsIn_68 rfl
    · have h := im h c26
      refine lv_aload_n hx hb dX8_failsIn_29 rfl (lv_at hl 0 rfl) ?_
      refine lv_iconst (v := 2) hx hb dX8_failsIn_30 (by decide) ?_
      refine lv_iload hx hb dX8_failsIn_31 (lv_at hl 3 rfl) ?_
      obtain ⟨v12, hv12, h⟩ := ob h
      refine g_callVi (eC_ok adK adV) C Z (k_X8_toldOf hv12) lk_X8_45 (by decide) rfl rfl hl (by decide) rfl (Nat.le_of_ble_eq_true rfl) (rest := []) rfl dX8_failsIn_33 (fun H locs Z => ?_)
      refine lv_i2l (v := v12.toInt64) hx hb dX8_failsIn_36 rfl ?_
      refine lv_lload_n hx hb dX8_failsIn_37 rfl (lv_at hl 2 rfl) ?_
      refine g_lle (tgt := 45) hx hb dX8_failsIn_38 dX8_failsIn_39 (by decide) (fun c39 => ?_) (fun c39 => ?_)
      · have h := ip h c39
        refine lv_aload_n hx hb dX8_failsIn_45 rfl (lv_at hl 0 rfl) ?_
        refine lv_iload_n hx hb dX8_failsIn_46 rfl (lv_at hl 1 rfl) ?_
        refine lv_iload hx hb dX8_failsIn_47 (lv_at hl 3 rfl) ?_
        refine lv_aload_n hx hb dX8_failsIn_49 rfl (lv_at hl 0 rfl) ?_
        refine rg_X8_15 C Z dX8_failsIn_50 ?_
        refine lv_iload_n hx hb dX8_failsIn_53 rfl (lv_at hl 1 rfl) ?_
        obtain ⟨v13, hv13, h⟩ := ob h
        refine g_iald C Z iaC51 hv13 dX8_failsIn_54 ?_
        refine lv_lload_n hx hb dX8_failsIn_55 rfl (lv_at hl 2 rfl) ?_
        obtain ⟨v14, hv14, h⟩ := ob h
        refine g_callVl (eC_ok adK adV) C Z (k_X8_nextStock hv14) lk_X8_59 (by decide) rfl rfl hl (by decide) rfl (Nat.le_of_ble_eq_true rfl) (rest := []) rfl dX8_failsIn_56 (fun H locs Z => ?_)
        refine lv_lstore_n (lv' := [(2, .long v14), (0, .ref (ad 7)), (1, .int x1), (4, .int x4)]) hx hb dX8_failsIn_59 rfl hl (by decide) rfl (fun ls hl => ?_)
        obtain ⟨v15, ev15, h⟩ := lb h
        refine lv_iinc (v := v15) (lv' := [(4, .int v15), (2, .long v14), (0, .ref (ad 7)), (1, .int x1)]) hx hb dX8_failsIn_60 hl (k := 3) rfl (by rw [ev15]; rfl) (by decide) rfl (fun ls hl => ?_)
        refine lv_goto (tgt := 22) hx hb dX8_failsIn_63 (by decide) ?_
        exact ih _ _ _ _ _ Z (lv_sub hl [2, 3, 1, 0] rfl) h
      · have h := im h c39
        refine lv_iload hx hb dX8_failsIn_42 (lv_at hl 3 rfl) ?_
        obtain rfl := Option.some.inj h
        exact hR _ _ _ _ _ Z dX8_failsIn_44 rfl
set_option maxRecDepth 20000 in
theorem w_X8_failsIn_0 {p : Program} {l : Launch} {e : Env} {s : State} {m : MethodId} {args : Array Value} {below : List Frame} {meth : Method} {c : Code} {Q : State → Prop} {D : va_G} {kc : Nat → ClassId} {ad : Nat → Nat} {A : Nat → Prop} {adK adV : Nat → Nat} (C : Cx (eC adK adV) p s m args c cX8_failsIn 5 RX8 D kc A) {R : Int32} {x1 : Int32} {σ : St} (hR : RTi 0 0 p l e r_X8_failsIn s m args below meth c cX8_failsIn tC kc ad D A Q .int R σ) {H : Heap} {locs : List Loc} {ls : Array Slot} (Z : Dy tC kc ad D A s.heap σ H locs) (hl : lv_has ls 5 [(0, .ref (ad 7)), (1, .int x1)]) (h : f_X8_failsIn x1 σ = some R) : W p l e r_X8_failsIn s m args below meth c H locs 0 0 Q (F0 m 0 ls []) := by
  have hx := C.1.1
  have hb := C.1.2.1
  unfold f_X8_failsIn at h
  refine lv_iload_n hx hb dX8_failsIn_0 rfl (lv_at hl 1 rfl) ?_
  refine lv_iconst (v := 0) hx hb dX8_failsIn_1 (by decide) ?_
  refine lv_iconst (v := 1) hx hb dX8_failsIn_2 (by decide) ?_
  refine g_callNi (eC_ok adK adV) C Z (k_X10_lies x1 0 1 σ) (C.2.2.2.1 _ nw_X8_37) lkn_X10_lies hl (by decide) rfl (Nat.le_of_ble_eq_true rfl) (rest := []) rfl dX8_failsIn_3 (fun H locs Z => ?_)
  refine lv_if_ne (tgt := 11) hx hb dX8_failsIn_6 (by decide) (fun c6 => ?_) (fun c6 => ?_)
  · have h := im h c6
    refine lv_aload_n hx hb dX8_failsIn_11 rfl (lv_at hl 0 rfl) ?_
    refine rg_X8_9 C Z dX8_failsIn_12 ?_
    refine lv_iload_n hx hb dX8_failsIn_15 rfl (lv_at hl 1 rfl) ?_
    obtain ⟨v11, hv11, h⟩ := ob h
    refine g_iald C Z iaC50 hv11 dX8_failsIn_16 ?_
    refine lv_i2l (v := v11.toInt64) hx hb dX8_failsIn_17 rfl ?_
    refine lv_lstore_n (lv' := [(2, .long v11.toInt64), (0, .ref (ad 7)), (1, .int x1)]) hx hb dX8_failsIn_18 rfl hl (by decide) rfl (fun ls hl => ?_)
    refine lv_iconst (v := 0) hx hb dX8_failsIn_19 (by decide) ?_
    refine lv_istore (lv' := [(4, .int 0), (2, .long v11.toInt64), (0, .ref (ad 7)), (1, .int x1)]) hx hb dX8_failsIn_20 hl (by decide) rfl (fun ls hl => ?_)
    exact w_X8_failsIn_22 C hR _ _ _ _ _ _ Z (lv_sub hl [2, 3, 1, 0] rfl) h
  · have h := ip h c6
    refine lv_iconst (v := (-1)) hx hb dX8_failsIn_9 (by decide) ?_
    obtain rfl := Option.some.inj h
    exact hR _ _ _ _ _ Z dX8_failsIn_10 rfl
theorem k_X8_failsIn {l : Launch} {kc : Nat → ClassId} {ad : Nat → Nat} {D : va_G} {adK adV : Nat → Nat} {x1 : Int32} {σ : St} {R : Int32} (h : f_X8_failsIn x1 σ = some R) : KC (eC adK adV) tC kc ad D l yX8_failsIn (.code yX8_failsIn cX8_failsIn 5 (some .int)) r_X8_failsIn [.ref (ad 7), .int x1] (some (.int R)) σ σ := by
  refine g_enter (by decide) (Nat.le_of_ble_eq_true rfl) ?_
  intro p e s m args below meth c A hA C hr hlocks Z ls hl
  have hl : lv_has ls 5 [(0, .ref (ad 7)), (1, .int x1)] := hl
  exact w_X8_failsIn_0 C (g_RTi C.1.1 C.1.2.1 hr hlocks hA)  Z hl h
def r_X8_leastLoss : Room := { frames := 5, cells := 0, slots := 0, locals := 117 }
set_option maxRecDepth 20000 in
theorem w_X8_leastLoss_60 {p : Program} {l : Launch} {e : Env} {s : State} {m : MethodId} {args : Array Value} {below : List Frame} {meth : Method} {c : Code} {Q : State → Prop} {D : va_G} {kc : Nat → ClassId} {ad : Nat → Nat} {A : Nat → Prop} {adK adV : Nat → Nat} (C : Cx (eC adK adV) p s m args c cX8_leastLoss 9 RX8 D kc A) {R : Int32} {x1 : Int32} {x2 : Int32} {x3 : Int64} {x5 : Int32} {x6 : Int32} {x7 : Int32} {σ : St} (hR : RTi 0 0 p l e r_X8_leastLoss s m args below meth c cX8_leastLoss tC kc ad D A Q .int R σ) {k11 : Int32 → Int32 → Int32 → Option (Int32)} (hk11 : ∀ (x5 : Int32) (x6 : Int32) (x7 : Int32) (H : Heap) (locs : List Loc) (ls : Array Slot), Dy tC kc ad D A s.heap σ H locs → lv_has ls 9 [(0, .ref (ad 7)), (1, .int x1), (2, .int x2), (3, .long x3), (5, .int x5), (6, .int x6), (7, .int x7)] → k11 x5 x6 x7 = some R → W p l e r_X8_leastLoss s m args below meth c H locs 0 0 Q (F0 m 11 ls [])) {H : Heap} {locs : List Loc} {ls : Array Slot} (Z : Dy tC kc ad D A s.heap σ H locs) (hl : lv_has ls 9 [(0, .ref (ad 7)), (1, .int x1), (2, .int x2), (3, .long x3), (5, .int x5), (6, .int x6), (7, .int x7)]) (h : f_X8_leastLoss_60 x1 x2 x3 x5 x6 x7 σ k11 = some R) : W p l e r_X8_leastLoss s m args below meth c H locs 0 0 Q (F0 m 60 ls []) := by
  have hx := C.1.1
  have hb := C.1.2.1
  unfold f_X8_leastLoss_60 at h
  obtain ⟨v12, ev12, h⟩ := lb h
  refine lv_iinc (v := v12) (lv' := [(7, .int v12), (0, .ref (ad 7)), (1, .int x1), (2, .int x2), (3, .long x3), (5, .int x5), (6, .int x6)]) hx hb dX8_leastLoss_60 hl (k := 6) rfl (by rw [ev12]; rfl) (by decide) rfl (fun ls hl => ?_)
  refine lv_goto (tgt := 11) hx hb dX8_leastLoss_63 (by decide) ?_
  exact hk11 _ _ _ _ _ _ Z (lv_sub hl [1, 2, 3, 4, 5, 6, 0] rfl) h
set_option maxRecDepth 20000 in
theorem w_X8_leastLoss_11 {p : Program} {l : Launch} {e : Env} {s : State} {m : MethodId} {args : Array Value} {below : List Frame} {meth : Method} {c : Code} {Q : State → Prop} {D : va_G} {kc : Nat → ClassId} {ad : Nat → Nat} {A : Nat → Prop} {adK adV : Nat → Nat} (C : Cx (eC adK adV) p s m args c cX8_leastLoss 9 RX8 D kc A) {R : Int32} {x1 : Int32} {x2 : Int32} {x3 : Int64} {σ : St} (hR : RTi 0 0 p l e r_X8_leastLoss s m args below meth c cX8_leastLoss tC kc ad D A Q .int R σ) : ∀ (n : Nat) (x5 : Int32) (x6 : Int32) (x7 : Int32) (H : Heap) (locs : List Loc) (ls : Array Slot), Dy tC kc ad D A s.heap σ H locs → lv_has ls 9 [(0, .ref (ad 7)), (1, .int x1), (2, .int x2), (3, .long x3), (5, .int x5), (6, .int x6), (7, .int x7)] → f_X8_leastLoss_11 x1 x2 x3 σ n x5 x6 x7 = some R → W p l e r_X8_leastLoss s m args below meth c H locs 0 0 Q (F0 m 11 ls []) := by
  have hx := C.1.1
  have hb := C.1.2.1
  intro n
  induction n with
  | zero =>
    intro x5 x6 x7 H locs ls Z hl h
    exact absurd (show none = some R from h) (by simp)
  | succ n ih =>
    intro x5 x6 x7 H locs ls Z hl h
    rw [f_X8_leastLoss_11] at h
    refine lv_iload hx hb dX8_leastLoss_11 (lv_at hl 6 rfl) ?_
    refine lv_bipush (v := 12) hx hb dX8_leastLoss_13 (by decide) ?_
    refine lv_icmp_ge (tgt := 66) hx hb dX8_leastLoss_15 (by decide) (fun c15 => ?_) (fun c15 => ?_)
    · have h := ip h c15
      refine lv_iload hx hb dX8_leastLoss_66 (lv_at hl 4 rfl) ?_
      obtain rfl := Option.some.inj h
      exact hR _ _ _ _ _ Z dX8_leastLoss_68 rfl
    · have h := im h c15
      refine lv_iload hx hb dX8_leastLoss_18 (lv_at hl 4 rfl) ?_
      refine lv_iload hx hb dX8_leastLoss_20 (lv_at hl 5 rfl) ?_
      refine lv_icmp_ge (tgt := 66) hx hb dX8_leastLoss_22 (by decide) (fun c22 => ?_) (fun c22 => ?_)
      · have h := ip h c22
        refine lv_iload hx hb dX8_leastLoss_66 (lv_at hl 4 rfl) ?_
        obtain rfl := Option.some.inj h
        exact hR _ _ _ _ _ Z dX8_leastLoss_68 rfl
      · have h := im h c22
        refine lv_iload hx hb dX8_leastLoss_25 (lv_at hl 4 rfl) ?_
        refine lv_iload hx hb dX8_leastLoss_27 (lv_at hl 5 rfl) ?_
        refine lv_iadd hx hb dX8_leastLoss_29 ?_
        refine lv_iconst (v := 2) hx hb dX8_leastLoss_30 (by decide) ?_
        refine lv_idiv hx hb dX8_leastLoss_31 (by decide) ?_
        obtain ⟨v9, ev9, h⟩ := lb h
        refine tn_i ev9 ?_
        refine lv_istore (lv' := [(8, .int v9), (0, .ref (ad 7)), (1, .int x1), (2, .int x2), (3, .long x3), (5, .int x5), (6, .int x6), (7, .int x7)]) hx hb dX8_leastLoss_32 hl (by decide) rfl (fun ls hl => ?_)
        refine lv_aload_n hx hb dX8_leastLoss_34 rfl (lv_at hl 1 rfl) ?_
        refine lv_iload_n hx hb dX8_leastLoss_35 rfl (lv_at hl 2 rfl) ?_
        refine lv_iload_n hx hb dX8_leastLoss_36 rfl (lv_at hl 3 rfl) ?_
        refine lv_iload hx hb dX8_leastLoss_37 (lv_at hl 0 rfl) ?_
        obtain ⟨v10, hv10, h⟩ := ob h
        refine g_callVl (eC_ok adK adV) C Z (k_X8_stockWith hv10) lk_X8_67 (by decide) rfl rfl hl (by decide) rfl (Nat.le_of_ble_eq_true rfl) (rest := []) rfl dX8_leastLoss_39 (fun H locs Z => ?_)
        refine lv_lload_n hx hb dX8_leastLoss_42 rfl (lv_at hl 4 rfl) ?_
        refine g_lgt (tgt := 54) hx hb dX8_leastLoss_43 dX8_leastLoss_44 (by decide) (fun c44 => ?_) (fun c44 => ?_)
        · have h := ip h c44
          refine lv_iload hx hb dX8_leastLoss_54 (lv_at hl 0 rfl) ?_
          refine lv_iconst (v := 1) hx hb dX8_leastLoss_56 (by decide) ?_
          refine lv_iadd hx hb dX8_leastLoss_57 ?_
          obtain ⟨v11, ev11, h⟩ := lb h
          refine tn_i ev11 ?_
          refine lv_istore (lv' := [(5, .int v11), (8, .int v9), (0, .ref (ad 7)), (1, .int x1), (2, .int x2), (3, .long x3), (6, .int x6), (7, .int x7)]) hx hb dX8_leastLoss_58 hl (by decide) rfl (fun ls hl => ?_)
          exact w_X8_leastLoss_60 C hR ih Z (lv_sub hl [2, 3, 4, 5, 0, 6, 7] rfl) h
        · have h := im h c44
          refine lv_iload hx hb dX8_leastLoss_47 (lv_at hl 0 rfl) ?_
          refine lv_istore (lv' := [(6, .int v9), (8, .int v9), (0, .ref (ad 7)), (1, .int x1), (2, .int x2), (3, .long x3), (5, .int x5), (7, .int x7)]) hx hb dX8_leastLoss_49 hl (by decide) rfl (fun ls hl => ?_)
          refine lv_goto (tgt := 60) hx hb dX8_leastLoss_51 (by decide) ?_
          exact w_X8_leastLoss_60 C hR ih Z (lv_sub hl [2, 3, 4, 5, 6, 0, 7] rfl) h
set_option maxRecDepth 20000 in
theorem w_X8_leastLoss_0 {p : Program} {l : Launch} {e : Env} {s : State} {m : MethodId} {args : Array Value} {below : List Frame} {meth : Method} {c : Code} {Q : State → Prop} {D : va_G} {kc : Nat → ClassId} {ad : Nat → Nat} {A : Nat → Prop} {adK adV : Nat → Nat} (C : Cx (eC adK adV) p s m args c cX8_leastLoss 9 RX8 D kc A) {R : Int32} {x1 : Int32} {x2 : Int32} {x3 : Int64} {σ : St} (hR : RTi 0 0 p l e r_X8_leastLoss s m args below meth c cX8_leastLoss tC kc ad D A Q .int R σ) {H : Heap} {locs : List Loc} {ls : Array Slot} (Z : Dy tC kc ad D A s.heap σ H locs) (hl : lv_has ls 9 [(0, .ref (ad 7)), (1, .int x1), (2, .int x2), (3, .long x3)]) (h : f_X8_leastLoss x1 x2 x3 σ = some R) : W p l e r_X8_leastLoss s m args below meth c H locs 0 0 Q (F0 m 0 ls []) := by
  have hx := C.1.1
  have hb := C.1.2.1
  unfold f_X8_leastLoss at h
  refine lv_iconst (v := 0) hx hb dX8_leastLoss_0 (by decide) ?_
  refine lv_istore (lv' := [(5, .int 0), (0, .ref (ad 7)), (1, .int x1), (2, .int x2), (3, .long x3)]) hx hb dX8_leastLoss_1 hl (by decide) rfl (fun ls hl => ?_)
  refine lv_sipush (v := 1001) hx hb dX8_leastLoss_3 (by decide) ?_
  refine lv_istore (lv' := [(6, .int 1001), (5, .int 0), (0, .ref (ad 7)), (1, .int x1), (2, .int x2), (3, .long x3)]) hx hb dX8_leastLoss_6 hl (by decide) rfl (fun ls hl => ?_)
  refine lv_iconst (v := 0) hx hb dX8_leastLoss_8 (by decide) ?_
  refine lv_istore (lv' := [(7, .int 0), (6, .int 1001), (5, .int 0), (0, .ref (ad 7)), (1, .int x1), (2, .int x2), (3, .long x3)]) hx hb dX8_leastLoss_9 hl (by decide) rfl (fun ls hl => ?_)
  exact w_X8_leastLoss_11 C hR _ _ _ _ _ _ _ Z (lv_sub hl [3, 4, 5, 6, 2, 1, 0] rfl) h
theorem k_X8_leastLoss {l : Launch} {kc : Nat → ClassId} {ad : Nat → Nat} {D : va_G} {adK adV : Nat → Nat} {x1 : Int32} {x2 : Int32} {x3 : Int64} {σ : St} {R : Int32} (h : f_X8_leastLoss x1 x2 x3 σ = some R) : KC (eC adK adV) tC kc ad D l yX8_leastLoss (.code yX8_leastLoss cX8_leastLoss 9 (some .int)) r_X8_leastLoss [.ref (ad 7), .int x1, .int x2, .long x3] (some (.int R)) σ σ := by
  refine g_enter (by decide) (Nat.le_of_ble_eq_true rfl) ?_
  intro p e s m args below meth c A hA C hr hlocks Z ls hl
  have hl : lv_has ls 9 [(0, .ref (ad 7)), (1, .int x1), (2, .int x2), (3, .long x3)] := hl
  exact w_X8_leastLoss_0 C (g_RTi C.1.1 C.1.2.1 hr hlocks hA)  Z hl h
