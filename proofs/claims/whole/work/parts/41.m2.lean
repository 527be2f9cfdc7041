def r_X11_isInForce : Room := { frames := 0, cells := 0, slots := 0, locals := 0 }
set_option maxRecDepth 20000 in
theorem w_X11_isInForce_82 {p : Program} {l : Launch} {e : Env} {s : State} {m : MethodId} {args : Array Value} {below : List Frame} {meth : Method} {c : Code} {Q : State → Prop} {D : va_G} {kc : Nat → ClassId} {ad : Nat → Nat} {A : Nat → Prop} (C : Cx eM p s m args c cX11_isInForce 5 RX11 D kc A) {R : Int32} {x1 : Int32} {x2 : Int32} {x3 : Int32} {x4 : Int32} {σ : St} (hR : RTi 0 0 p l e r_X11_isInForce s m args below meth c cX11_isInForce tM kc ad D A Q .boolean R σ) {k41 : Int32 → Option (Int32)} {k14 : Int32 → Option (Int32)} (hk41 : ∀ (x4 : Int32) (H : Heap) (locs : List Loc) (ls : Array Slot), Dy tM kc ad D A s.heap σ H locs → lv_has ls 5 [(0, .ref (ad 0)), (1, .int x1), (2, .int x2), (3, .int x3), (4, .int x4)] → k41 x4 = some R → W p l e r_X11_isInForce s m args below meth c H locs 0 0 Q (F0 m 41 ls [])) (hk14 : ∀ (x3 : Int32) (H : Heap) (locs : List Loc) (ls : Array Slot), Dy tM kc ad D A s.heap σ H locs → lv_has ls 5 [(0, .ref (ad 0)), (1, .int x1), (2, .int x2), (3, .int x3)] → k14 x3 = some R → W p l e r_X11_isInForce s m args below meth c H locs 0 0 Q (F0 m 14 ls [])) {H : Heap} {locs : List Loc} {ls : Array Slot} (Z : Dy tM kc ad D A s.heap σ H locs) (hl : lv_has ls 5 [(0, .ref (ad 0)), (1, .int x1), (2, .int x2), (3, .int x3), (4, .int x4)]) (h : f_X11_isInForce_82 x1 x2 x3 x4 σ k41 k14 = some R) : W p l e r_X11_isInForce s m args below meth c H locs 0 0 Q (F0 m 82 ls []) := by
  have hx := C.1.1
  have hb := C.1.2.1
  unfold f_X11_isInForce_82 at h
  obtain ⟨v23, ev23, h⟩ := lb h
  refine lv_iinc (v := v23) (lv' := [(4, .int v23), (0, .ref (ad 0)), (1, .int x1), (2, .int x2), (3, .int x3)]) hx hb dX11_isInForce_82 hl (k := 4) rfl (by rw [ev23]; rfl) (by decide) rfl (fun ls hl => ?_)
  refine lv_goto (tgt := 41) hx hb dX11_isInForce_85 (by decide) ?_
  exact hk41 _ _ _ _ Z (lv_sub hl [1, 2, 3, 4, 0] rfl) h
set_option maxRecDepth 20000 in
theorem w_X11_isInForce_88 {p : Program} {l : Launch} {e : Env} {s : State} {m : MethodId} {args : Array Value} {below : List Frame} {meth : Method} {c : Code} {Q : State → Prop} {D : va_G} {kc : Nat → ClassId} {ad : Nat → Nat} {A : Nat → Prop} (C : Cx eM p s m args c cX11_isInForce 5 RX11 D kc A) {R : Int32} {x1 : Int32} {x2 : Int32} {x3 : Int32} {σ : St} (hR : RTi 0 0 p l e r_X11_isInForce s m args below meth c cX11_isInForce tM kc ad D A Q .boolean R σ) {k14 : Int32 → Option (Int32)} (hk14 : ∀ (x3 : Int32) (H : Heap) (locs : List Loc) (ls : Array Slot), Dy tM kc ad D A s.heap σ H locs → lv_has ls 5 [(0, .ref (ad 0)), (1, .int x1), (2, .int x2), (3, .int x3)] → k14 x3 = some R → W p l e r_X11_isInForce s m args below meth c H locs 0 0 Q (F0 m 14 ls [])) {H : Heap} {locs : List Loc} {ls : Array Slot} (Z : Dy tM kc ad D A s.heap σ H locs) (hl : lv_has ls 5 [(0, .ref (ad 0)), (1, .int x1), (2, .int x2), (3, .int x3)]) (h : f_X11_isInForce_88 x1 x2 x3 σ k14 = some R) : W p l e r_X11_isInForce s m args below meth c H locs 0 0 Q (F0 m 88 ls []) := by
  have hx := C.1.1
  have hb := C.1.2.1
  unfold f_X11_isInForce_88 at h
  obtain ⟨v24, ev24, h⟩ := lb h
  refine lv_iinc (v := v24) (lv' := [(3, .int v24), (0, .ref (ad 0)), (1, .int x1), (2, .int x2)]) hx hb dX11_isInForce_88 hl (k := 3) rfl (by rw [ev24]; rfl) (by decide) rfl (fun ls hl => ?_)
  refine lv_goto (tgt := 14) hx hb dX11_isInForce_91 (by decide) ?_
  exact hk14 _ _ _ _ Z (lv_sub hl [1, 2, 3, 0] rfl) h
set_option maxRecDepth 20000 in
theorem w_X11_isInForce_41 {p : Program} {l : Launch} {e : Env} {s : State} {m : MethodId} {args : Array Value} {below : List Frame} {meth : Method} {c : Code} {Q : State → Prop} {D : va_G} {kc : Nat → ClassId} {ad : Nat → Nat} {A : Nat → Prop} (C : Cx eM p s m args c cX11_isInForce 5 RX11 D kc A) {R : Int32} {x1 : Int32} {x2 : Int32} {x3 : Int32} {σ : St} (hR : RTi 0 0 p l e r_X11_isInForce s m args below meth c cX11_isInForce tM kc ad D A Q .boolean R σ) {k14 : Int32 → Option (Int32)} (hk14 : ∀ (x3 : Int32) (H : Heap) (locs : List Loc) (ls : Array Slot), Dy tM kc ad D A s.heap σ H locs → lv_has ls 5 [(0, .ref (ad 0)), (1, .int x1), (2, .int x2), (3, .int x3)] → k14 x3 = some R → W p l e r_X11_isInForce s m args below meth c H locs 0 0 Q (F0 m 14 ls [])) : ∀ (n : Nat) (x4 : Int32) (H : Heap) (locs : List Loc) (ls : Array Slot), Dy tM kc ad D A s.heap σ H locs → lv_has ls 5 [(0, .ref (ad 0)), (1, .int x1), (2, .int x2), (3, .int x3), (4, .int x4)] → f_X11_isInForce_41 x1 x2 x3 σ k14 n x4 = some R → W p l e r_X11_isInForce s m args below meth c H locs 0 0 Q (F0 m 41 ls []) := by
  have hx := C.1.1
  have hb := C.1.2.1
  intro n
  induction n with
  | zero =>
    intro x4 H locs ls Z hl h
    exact absurd (show none = some R from h) (by simp)
  | succ n ih =>
    intro x4 H locs ls Z hl h
    rw [f_X11_isInForce_41] at h
    refine lv_iload hx hb dX11_isInForce_41 (lv_at hl 4 rfl) ?_
    refine lv_bipush (v := 12) hx hb dX11_isInForce_43 (by decide) ?_
    refine lv_iload_n hx hb dX11_isInForce_45 rfl (lv_at hl 3 rfl) ?_
    refine lv_imul hx hb dX11_isInForce_46 ?_
    refine lv_aload_n hx hb dX11_isInForce_47 rfl (lv_at hl 0 rfl) ?_
    refine rg_X11_71 C Z dX11_isInForce_48 ?_
    refine lv_iload_n hx hb dX11_isInForce_51 rfl (lv_at hl 3 rfl) ?_
    obtain ⟨v20, hv20, h⟩ := ob h
    refine g_iald C Z iaM21 hv20 dX11_isInForce_52 ?_
    refine lv_iadd hx hb dX11_isInForce_53 ?_
    refine lv_icmp_ge (tgt := 88) hx hb dX11_isInForce_54 (by decide) (fun c54 => ?_) (fun c54 => ?_)
    · have h := ip h c54
      exact w_X11_isInForce_88 C hR hk14 Z (lv_sub hl [0, 1, 2, 3] rfl) h
    · have h := im h c54
      refine lv_aload_n hx hb dX11_isInForce_57 rfl (lv_at hl 0 rfl) ?_
      refine rg_X11_74 C Z dX11_isInForce_58 ?_
      refine lv_iload hx hb dX11_isInForce_61 (lv_at hl 4 rfl) ?_
      obtain ⟨v21, hv21, h⟩ := ob h
      refine g_iald C Z iaM22 hv21 dX11_isInForce_63 ?_
      refine lv_bipush (v := 7) hx hb dX11_isInForce_64 (by decide) ?_
      refine lv_icmp_ne (tgt := 82) hx hb dX11_isInForce_66 (by decide) (fun c66 => ?_) (fun c66 => ?_)
      · have h := im h c66
        exact w_X11_isInForce_82 C hR ih hk14 Z (lv_sub hl [0, 1, 2, 3, 4] rfl) h
      · have h := ip h c66
        refine lv_aload_n hx hb dX11_isInForce_69 rfl (lv_at hl 0 rfl) ?_
        refine rg_X11_77 C Z dX11_isInForce_70 ?_
        refine lv_iload hx hb dX11_isInForce_73 (lv_at hl 4 rfl) ?_
        obtain ⟨v22, hv22, h⟩ := ob h
        refine g_iald C Z iaM23 hv22 dX11_isInForce_75 ?_
        refine lv_iload_n hx hb dX11_isInForce_76 rfl (lv_at hl 1 rfl) ?_
        refine lv_icmp_ne (tgt := 82) hx hb dX11_isInForce_77 (by decide) (fun c77 => ?_) (fun c77 => ?_)
        · have h := im h c77
          exact w_X11_isInForce_82 C hR ih hk14 Z (lv_sub hl [0, 1, 2, 3, 4] rfl) h
        · have h := ip h c77
          refine lv_iconst (v := 0) hx hb dX11_isInForce_80 (by decide) ?_
          obtain rfl := Option.some.inj h
          exact hR _ _ _ _ _ Z dX11_isInForce_81 rfl
set_option maxRecDepth 20000 in
theorem w_X11_isInForce_14 {p : Program} {l : Launch} {e : Env} {s : State} {m : MethodId} {args : Array Value} {below : List Frame} {meth : Method} {c : Code} {Q : State → Prop} {D : va_G} {kc : Nat → ClassId} {ad : Nat → Nat} {A : Nat → Prop} (C : Cx eM p s m args c cX11_isInForce 5 RX11 D kc A) {R : Int32} {x1 : Int32} {x2 : Int32} {σ : St} (hR : RTi 0 0 p l e r_X11_isInForce s m args below meth c cX11_isInForce tM kc ad D A Q .boolean R σ) : ∀ (n : Nat) (x3 : Int32) (H : Heap) (locs : List Loc) (ls : Array Slot), Dy tM kc ad D A s.heap σ H locs → lv_has ls 5 [(0, .ref (ad 0)), (1, .int x1), (2, .int x2), (3, .int x3)] → f_X11_isInForce_14 x1 x2 σ n x3 = some R → W p l e r_X11_isInForce s m args below meth c H locs 0 0 Q (F0 m 14 ls []) := by
  have hx := C.1.1
  have hb := C.1.2.1
  intro n
  induction n with
  | zero =>
    intro x3 H locs ls Z hl h
    exact absurd (show none = some R from h) (by simp)
  | succ n ih =>
    intro x3 H locs ls Z hl h
    rw [f_X11_isInForce_14] at h
    refine lv_iload_n hx hb dX11_isInForce_14 rfl (lv_at hl 3 rfl) ?_
    refine lv_aload_n hx hb dX11_isInForce_15 rfl (lv_at hl 0 rfl) ?_
    refine rg_X11_350 C Z dX11_isInForce_16 ?_
    refine lv_icmp_ge (tgt := 94) hx hb dX11_isInForce_19 (by decide) (fun c19 => ?_) (fun c19 => ?_)
    · have h := ip h c19
      refine lv_iconst (v := 1) hx hb dX11_isInForce_94 (by decide) ?_
      obtain rfl := Option.some.inj h
      exact hR _ _ _ _ _ Z dX11_isInForce_95 rfl
    · have h := im h c19
      refine lv_aload_n hx hb dX11_isInForce_22 rfl (lv_at hl 0 rfl) ?_
      refine rg_X11_68 C Z dX11_isInForce_23 ?_
      refine lv_iload_n hx hb dX11_isInForce_26 rfl (lv_at hl 3 rfl) ?_
      obtain ⟨v18, hv18, h⟩ := ob h
      refine g_iald C Z iaM20 hv18 dX11_isInForce_27 ?_
      refine lv_iload_n hx hb dX11_isInForce_28 rfl (lv_at hl 2 rfl) ?_
      refine lv_icmp_le (tgt := 35) hx hb dX11_isInForce_29 (by decide) (fun c29 => ?_) (fun c29 => ?_)
      · have h := ip h c29
        refine lv_bipush (v := 12) hx hb dX11_isInForce_35 (by decide) ?_
        refine lv_iload_n hx hb dX11_isInForce_37 rfl (lv_at hl 3 rfl) ?_
        refine lv_imul hx hb dX11_isInForce_38 ?_
        obtain ⟨v19, ev19, h⟩ := lb h
        refine tn_i ev19 ?_
        refine lv_istore (lv' := [(4, .int v19), (0, .ref (ad 0)), (1, .int x1), (2, .int x2), (3, .int x3)]) hx hb dX11_isInForce_39 hl (by decide) rfl (fun ls hl => ?_)
        exact w_X11_isInForce_41 C hR ih _ _ _ _ _ Z (lv_sub hl [1, 2, 3, 4, 0] rfl) h
      · have h := im h c29
        refine lv_goto (tgt := 88) hx hb dX11_isInForce_32 (by decide) ?_
        exact w_X11_isInForce_88 C hR ih Z (lv_sub hl [0, 1, 2, 3] rfl) h
set_option maxRecDepth 20000 in
theorem w_X11_isInForce_0 {p : Program} {l : Launch} {e : Env} {s : State} {m : MethodId} {args : Array Value} {below : List Frame} {meth : Method} {c : Code} {Q : State → Prop} {D : va_G} {kc : Nat → ClassId} {ad : Nat → Nat} {A : Nat → Prop} (C : Cx eM p s m args c cX11_isInForce 5 RX11 D kc A) {R : Int32} {x1 : Int32} {x2 : Int32} {σ : St} (hR : RTi 0 0 p l e r_X11_isInForce s m args below meth c cX11_isInForce tM kc ad D A Q .boolean R σ) {H : Heap} {locs : List Loc} {ls : Array Slot} (Z : Dy tM kc ad D A s.heap σ H locs) (hl : lv_has ls 5 [(0, .ref (ad 0)), (1, .int x1), (2, .int x2)]) (h : f_X11_isInForce x1 x2 σ = some R) : W p l e r_X11_isInForce s m args below meth c H locs 0 0 Q (F0 m 0 ls []) := by
  have hx := C.1.1
  have hb := C.1.2.1
  unfold f_X11_isInForce at h
  refine lv_aload_n hx hb dX11_isInForce_0 rfl (lv_at hl 0 rfl) ?_
  refine rg_X11_68 C Z dX11_isInForce_1 ?_
  refine lv_iload_n hx hb dX11_isInForce_4 rfl (lv_at hl 1 rfl) ?_
  obtain ⟨v17, hv17, h⟩ := ob h
  refine g_iald C Z iaM20 hv17 dX11_isInForce_5 ?_
  refine lv_iload_n hx hb dX11_isInForce_6 rfl (lv_at hl 2 rfl) ?_
  refine lv_icmp_le (tgt := 12) hx hb dX11_isInForce_7 (by decide) (fun c7 => ?_) (fun c7 => ?_)
  · have h := ip h c7
    refine lv_iconst (v := 0) hx hb dX11_isInForce_12 (by decide) ?_
    refine lv_istore_n (lv' := [(3, .int 0), (0, .ref (ad 0)), (1, .int x1), (2, .int x2)]) hx hb dX11_isInForce_13 rfl hl (by decide) rfl (fun ls hl => ?_)
    exact w_X11_isInForce_14 C hR _ _ _ _ _ Z (lv_sub hl [1, 2, 3, 0] rfl) h
  · have h := im h c7
    refine lv_iconst (v := 0) hx hb dX11_isInForce_10 (by decide) ?_
    obtain rfl := Option.some.inj h
    exact hR _ _ _ _ _ Z dX11_isInForce_11 rfl
theorem k_X11_isInForce {l : Launch} {kc : Nat → ClassId} {ad : Nat → Nat} {D : va_G} {x1 : Int32} {x2 : Int32} {σ : St} {R : Int32} (h : f_X11_isInForce x1 x2 σ = some R) : KC eM tM kc ad D l yX11_isInForce (.code yX11_isInForce cX11_isInForce 5 (some .boolean)) r_X11_isInForce [.ref (ad 0), .int x1, .int x2] (some (.int R)) σ σ := by
  refine g_enter (by decide) (Nat.le_of_ble_eq_true rfl) ?_
  intro p e s m args below meth c A hA C hr hlocks Z ls hl
  have hl : lv_has ls 5 [(0, .ref (ad 0)), (1, .int x1), (2, .int x2)] := hl
  exact w_X11_isInForce_0 C (g_RTi C.1.1 C.1.2.1 hr hlocks hA)  Z hl h
def r_X11_wordNow : Room := { frames := 0, cells := 0, slots := 0, locals := 0 }
set_option maxRecDepth 20000 in
theorem w_X11_wordNow_0 {p : Program} {l : Launch} {e : Env} {s : State} {m : MethodId} {args : Array Value} {below : List Frame} {meth : Method} {c : Code} {Q : State → Prop} {D : va_G} {kc : Nat → ClassId} {ad : Nat → Nat} {A : Nat → Prop} (C : Cx eM p s m args c cX11_wordNow 2 RX11 D kc A) {R : Int64} {x1 : Int32} {σ : St} (hR : RTl 0 0 p l e r_X11_wordNow s m args below meth c cX11_wordNow tM kc ad D A Q R σ) {H : Heap} {locs : List Loc} {ls : Array Slot} (Z : Dy tM kc ad D A s.heap σ H locs) (hl : lv_has ls 2 [(0, .ref (ad 0)), (1, .int x1)]) (h : f_X11_wordNow x1 σ = some R) : W p l e r_X11_wordNow s m args below meth c H locs 0 0 Q (F0 m 0 ls []) := by
  have hx := C.1.1
  have hb := C.1.2.1
  unfold f_X11_wordNow at h
  refine lv_iload_n hx hb dX11_wordNow_0 rfl (lv_at hl 1 rfl) ?_
  refine lv_if_ne (tgt := 10) hx hb dX11_wordNow_1 (by decide) (fun c1 => ?_) (fun c1 => ?_)
  · have h := im h c1
    refine lv_aload_n hx hb dX11_wordNow_10 rfl (lv_at hl 0 rfl) ?_
    refine rg_X11_442 C Z dX11_wordNow_11 ?_
    refine lv_if_ge (tgt := 19) hx hb dX11_wordNow_14 (by decide) (fun c14 => ?_) (fun c14 => ?_)
    · have h := ip h c14
      refine lv_iload_n hx hb dX11_wordNow_19 rfl (lv_at hl 1 rfl) ?_
      by_cases c20_0 : x1 = 1
      · have h := ip h c20_0
        refine lv_tableIn (tgt := 64) (off := 44) hx hb dX11_wordNow_20 (by rw [c20_0]; decide) (by rw [c20_0]; decide) (by rw [c20_0]; decide) (by decide) ?_
        refine lv_aload_n hx hb dX11_wordNow_64 rfl (lv_at hl 0 rfl) ?_
        refine rg_X11_445 C Z dX11_wordNow_65 ?_
        refine lv_i2l (v := (gF σ 49).toInt64) hx hb dX11_wordNow_68 rfl ?_
        obtain rfl := Option.some.inj h
        exact hR _ _ _ _ Z dX11_wordNow_69
      have h := im h c20_0
      by_cases c20_1 : x1 = 2
      · have h := ip h c20_1
        refine lv_tableIn (tgt := 70) (off := 50) hx hb dX11_wordNow_20 (by rw [c20_1]; decide) (by rw [c20_1]; decide) (by rw [c20_1]; decide) (by decide) ?_
        refine lv_aload_n hx hb dX11_wordNow_70 rfl (lv_at hl 0 rfl) ?_
        refine rg_X11_448 C Z dX11_wordNow_71 ?_
        refine lv_i2l (v := (gF σ 50).toInt64) hx hb dX11_wordNow_74 rfl ?_
        obtain rfl := Option.some.inj h
        exact hR _ _ _ _ Z dX11_wordNow_75
      have h := im h c20_1
      by_cases c20_2 : x1 = 3
      · have h := ip h c20_2
        refine lv_tableIn (tgt := 76) (off := 56) hx hb dX11_wordNow_20 (by rw [c20_2]; decide) (by rw [c20_2]; decide) (by rw [c20_2]; decide) (by decide) ?_
        refine lv_aload_n hx hb dX11_wordNow_76 rfl (lv_at hl 0 rfl) ?_
        refine rg_X11_7 C Z dX11_wordNow_77 ?_
        refine lv_bipush (v := 24) hx hb dX11_wordNow_80 (by decide) ?_
        refine lv_aload_n hx hb dX11_wordNow_82 rfl (lv_at hl 0 rfl) ?_
        refine rg_X11_448 C Z dX11_wordNow_83 ?_
        refine lv_imul hx hb dX11_wordNow_86 ?_
        refine lv_aload_n hx hb dX11_wordNow_87 rfl (lv_at hl 0 rfl) ?_
        refine rg_X11_445 C Z dX11_wordNow_88 ?_
        refine lv_iadd hx hb dX11_wordNow_91 ?_
        obtain ⟨v11, hv11, h⟩ := ob h
        refine g_iald C Z iaM1 hv11 dX11_wordNow_92 ?_
        refine lv_i2l (v := v11.toInt64) hx hb dX11_wordNow_93 rfl ?_
        obtain rfl := Option.some.inj h
        exact hR _ _ _ _ Z dX11_wordNow_94
      have h := im h c20_2
      by_cases c20_3 : x1 = 4
      · have h := ip h c20_3
        refine lv_tableIn (tgt := 95) (off := 75) hx hb dX11_wordNow_20 (by rw [c20_3]; decide) (by rw [c20_3]; decide) (by rw [c20_3]; decide) (by decide) ?_
        refine lv_aload_n hx hb dX11_wordNow_95 rfl (lv_at hl 0 rfl) ?_
        refine rg_X11_13 C Z dX11_wordNow_96 ?_
        refine lv_aload_n hx hb dX11_wordNow_99 rfl (lv_at hl 0 rfl) ?_
        refine rg_X11_442 C Z dX11_wordNow_100 ?_
        obtain ⟨v12, hv12, h⟩ := ob h
        refine g_iald C Z iaM2 hv12 dX11_wordNow_103 ?_
        refine lv_i2l (v := v12.toInt64) hx hb dX11_wordNow_104 rfl ?_
        obtain rfl := Option.some.inj h
        exact hR _ _ _ _ Z dX11_wordNow_105
      have h := im h c20_3
      by_cases c20_4 : x1 = 5
      · have h := ip h c20_4
        refine lv_tableIn (tgt := 106) (off := 86) hx hb dX11_wordNow_20 (by rw [c20_4]; decide) (by rw [c20_4]; decide) (by rw [c20_4]; decide) (by decide) ?_
        refine lv_aload_n hx hb dX11_wordNow_106 rfl (lv_at hl 0 rfl) ?_
        refine rg_X11_16 C Z dX11_wordNow_107 ?_
        refine lv_aload_n hx hb dX11_wordNow_110 rfl (lv_at hl 0 rfl) ?_
        refine rg_X11_442 C Z dX11_wordNow_111 ?_
        obtain ⟨v13, hv13, h⟩ := ob h
        refine g_iald C Z iaM3 hv13 dX11_wordNow_114 ?_
        refine lv_i2l (v := v13.toInt64) hx hb dX11_wordNow_115 rfl ?_
        obtain rfl := Option.some.inj h
        exact hR _ _ _ _ Z dX11_wordNow_116
      have h := im h c20_4
      by_cases c20_5 : x1 = 6
      · have h := ip h c20_5
        refine lv_tableIn (tgt := 117) (off := 97) hx hb dX11_wordNow_20 (by rw [c20_5]; decide) (by rw [c20_5]; decide) (by rw [c20_5]; decide) (by decide) ?_
        refine lv_aload_n hx hb dX11_wordNow_117 rfl (lv_at hl 0 rfl) ?_
        refine rg_X11_22 C Z dX11_wordNow_118 ?_
        refine lv_aload_n hx hb dX11_wordNow_121 rfl (lv_at hl 0 rfl) ?_
        refine rg_X11_442 C Z dX11_wordNow_122 ?_
        obtain ⟨v14, hv14, h⟩ := ob h
        refine g_iald C Z iaM5 hv14 dX11_wordNow_125 ?_
        refine lv_i2l (v := v14.toInt64) hx hb dX11_wordNow_126 rfl ?_
        obtain rfl := Option.some.inj h
        exact hR _ _ _ _ Z dX11_wordNow_127
      have h := im h c20_5
      by_cases c20_6 : x1 = 7
      · have h := ip h c20_6
        refine lv_tableIn (tgt := 128) (off := 108) hx hb dX11_wordNow_20 (by rw [c20_6]; decide) (by rw [c20_6]; decide) (by rw [c20_6]; decide) (by decide) ?_
        refine lv_aload_n hx hb dX11_wordNow_128 rfl (lv_at hl 0 rfl) ?_
        refine rg_X11_19 C Z dX11_wordNow_129 ?_
        refine lv_aload_n hx hb dX11_wordNow_132 rfl (lv_at hl 0 rfl) ?_
        refine rg_X11_442 C Z dX11_wordNow_133 ?_
        obtain ⟨v15, hv15, h⟩ := ob h
        refine g_iald C Z iaM4 hv15 dX11_wordNow_136 ?_
        refine lv_i2l (v := v15.toInt64) hx hb dX11_wordNow_137 rfl ?_
        obtain rfl := Option.some.inj h
        exact hR _ _ _ _ Z dX11_wordNow_138
      have h := im h c20_6
      refine lv_tableOut (tgt := 139) hx hb dX11_wordNow_20 ?_ (by decide) ?_
      · have t0 : ¬ x1.toInt = 1 := fun e => c20_0 (i32_of (b := 1) (n := 1) e (by decide)); have t1 : ¬ x1.toInt = 2 := fun e => c20_1 (i32_of (b := 2) (n := 2) e (by decide)); have t2 : ¬ x1.toInt = 3 := fun e => c20_2 (i32_of (b := 3) (n := 3) e (by decide)); have t3 : ¬ x1.toInt = 4 := fun e => c20_3 (i32_of (b := 4) (n := 4) e (by decide)); have t4 : ¬ x1.toInt = 5 := fun e => c20_4 (i32_of (b := 5) (n := 5) e (by decide)); have t5 : ¬ x1.toInt = 6 := fun e => c20_5 (i32_of (b := 6) (n := 6) e (by decide)); have t6 : ¬ x1.toInt = 7 := fun e => c20_6 (i32_of (b := 7) (n := 7) e (by decide)); omega
      · refine lv_aload_n hx hb dX11_wordNow_139 rfl (lv_at hl 0 rfl) ?_
        refine rg_X11_451 C Z dX11_wordNow_140 ?_
        refine lv_i2l (v := (gF σ 51).toInt64) hx hb dX11_wordNow_143 rfl ?_
        obtain rfl := Option.some.inj h
        exact hR _ _ _ _ Z dX11_wordNow_144
    · have h := im h c14
      refine lv_lconst (v := 0) hx hb dX11_wordNow_17 (by decide) ?_
      obtain rfl := Option.some.inj h
      exact hR _ _ _ _ Z dX11_wordNow_18
  · have h := ip h c1
    refine lv_aload_n hx hb dX11_wordNow_4 rfl (lv_at hl 0 rfl) ?_
    refine rg_X11_439 C Z dX11_wordNow_5 ?_
    refine lv_i2l (v := (gF σ 47).toInt64) hx hb dX11_wordNow_8 rfl ?_
    obtain rfl := Option.some.inj h
    exact hR _ _ _ _ Z dX11_wordNow_9
theorem k_X11_wordNow {l : Launch} {kc : Nat → ClassId} {ad : Nat → Nat} {D : va_G} {x1 : Int32} {σ : St} {R : Int64} (h : f_X11_wordNow x1 σ = some R) : KC eM tM kc ad D l yX11_wordNow (.code yX11_wordNow cX11_wordNow 2 (some .long)) r_X11_wordNow [.ref (ad 0), .int x1] (some (.long R)) σ σ := by
  refine g_enter (by decide) (Nat.le_of_ble_eq_true rfl) ?_
  intro p e s m args below meth c A hA C hr hlocks Z ls hl
  have hl : lv_has ls 2 [(0, .ref (ad 0)), (1, .int x1)] := hl
  exact w_X11_wordNow_0 C (g_RTl C.1.1 C.1.2.1 hr hlocks hA)  Z hl h
def r_X11_holds : Room := { frames := 0, cells := 0, slots := 0, locals := 0 }
set_option maxRecDepth 20000 in
theorem w_X11_holds_0 {p : Program} {l : Launch} {e : Env} {s : State} {m : MethodId} {args : Array Value} {below : List Frame} {meth : Method} {c : Code} {Q : State → Prop} {D : va_G} {kc : Nat → ClassId} {ad : Nat → Nat} {A : Nat → Prop} (C : Cx eM p s m args c cX11_holds 5 RX11 D kc A) {R : Int32} {x0 : Int32} {x1 : Int64} {x3 : Int64} {σ : St} (hR : RTi 0 0 p l e r_X11_holds s m args below meth c cX11_holds tM kc ad D A Q .boolean R σ) {H : Heap} {locs : List Loc} {ls : Array Slot} (Z : Dy tM kc ad D A s.heap σ H locs) (hl : lv_has ls 5 [(0, .int x0), (1, .long x1), (3, .long x3)]) (h : f_X11_holds x0 x1 x3 = R) : W p l e r_X11_holds s m args below meth c H locs 0 0 Q (F0 m 0 ls []) := by
  have hx := C.1.1
  have hb := C.1.2.1
  unfold f_X11_holds at h
  refine lv_iload_n hx hb dX11_holds_0 rfl (lv_at hl 0 rfl) ?_
  by_cases c1_0 : x0 = 0
  · have h := ip h c1_0
    refine lv_tableIn (tgt := 32) (off := 31) hx hb dX11_holds_1 (by rw [c1_0]; decide) (by rw [c1_0]; decide) (by rw [c1_0]; decide) (by decide) ?_
    refine lv_lload_n hx hb dX11_holds_32 rfl (lv_at hl 1 rfl) ?_
    refine lv_lload_n hx hb dX11_holds_33 rfl (lv_at hl 2 rfl) ?_
    obtain ⟨v1, ev1, h⟩ := lb h
    have hj : W p l e r_X11_holds s m args below meth c H locs 0 0 Q (F0 m 43 ls [.int v1]) := by
      subst h
      exact hR _ _ _ _ _ Z dX11_holds_43 (nar_b _)
    refine g_lge (tgt := 42) hx hb dX11_holds_34 dX11_holds_35 (by decide) (fun c35 => ?_) (fun c35 => ?_)
    · rw [if_pos c35] at ev1
      refine lv_iconst (v := 0) hx hb dX11_holds_42 (by decide) ?_
      exact tn_i ev1 hj
    · rw [if_neg c35] at ev1
      refine lv_iconst (v := 1) hx hb dX11_holds_38 (by decide) ?_
      refine lv_goto (tgt := 43) hx hb dX11_holds_39 (by decide) ?_
      exact tn_i ev1 hj
  have h := im h c1_0
  by_cases c1_1 : x0 = 1
  · have h := ip h c1_1
    refine lv_tableIn (tgt := 44) (off := 43) hx hb dX11_holds_1 (by rw [c1_1]; decide) (by rw [c1_1]; decide) (by rw [c1_1]; decide) (by decide) ?_
    refine lv_lload_n hx hb dX11_holds_44 rfl (lv_at hl 1 rfl) ?_
    refine lv_lload_n hx hb dX11_holds_45 rfl (lv_at hl 2 rfl) ?_
    obtain ⟨v2, ev2, h⟩ := lb h
    have hj : W p l e r_X11_holds s m args below meth c H locs 0 0 Q (F0 m 55 ls [.int v2]) := by
      subst h
      exact hR _ _ _ _ _ Z dX11_holds_55 (nar_b _)
    refine g_lgt (tgt := 54) hx hb dX11_holds_46 dX11_holds_47 (by decide) (fun c47 => ?_) (fun c47 => ?_)
    · rw [if_pos c47] at ev2
      refine lv_iconst (v := 0) hx hb dX11_holds_54 (by decide) ?_
      exact tn_i ev2 hj
    · rw [if_neg c47] at ev2
      refine lv_iconst (v := 1) hx hb dX11_holds_50 (by decide) ?_
      refine lv_goto (tgt := 55) hx hb dX11_holds_51 (by decide) ?_
      exact tn_i ev2 hj
  have h := im h c1_1
  by_cases c1_2 : x0 = 2
  · have h := ip h c1_2
    refine lv_tableIn (tgt := 56) (off := 55) hx hb dX11_holds_1 (by rw [c1_2]; decide) (by rw [c1_2]; decide) (by rw [c1_2]; decide) (by decide) ?_
    refine lv_lload_n hx hb dX11_holds_56 rfl (lv_at hl 1 rfl) ?_
    refine lv_lload_n hx hb dX11_holds_57 rfl (lv_at hl 2 rfl) ?_
    obtain ⟨v3, ev3, h⟩ := lb h
    have hj : W p l e r_X11_holds s m args below meth c H locs 0 0 Q (F0 m 67 ls [.int v3]) := by
      subst h
      exact hR _ _ _ _ _ Z dX11_holds_67 (nar_b _)
    refine g_lne (tgt := 66) hx hb dX11_holds_58 dX11_holds_59 (by decide) (fun c59 => ?_) (fun c59 => ?_)
    · rw [if_neg c59] at ev3
      refine lv_iconst (v := 0) hx hb dX11_holds_66 (by decide) ?_
      exact tn_i ev3 hj
    · rw [if_pos c59] at ev3
      refine lv_iconst (v := 1) hx hb dX11_holds_62 (by decide) ?_
      refine lv_goto (tgt := 67) hx hb dX11_holds_63 (by decide) ?_
      exact tn_i ev3 hj
  have h := im h c1_2
  by_cases c1_3 : x0 = 3
  · have h := ip h c1_3
    refine lv_tableIn (tgt := 68) (off := 67) hx hb dX11_holds_1 (by rw [c1_3]; decide) (by rw [c1_3]; decide) (by rw [c1_3]; decide) (by decide) ?_
    refine lv_lload_n hx hb dX11_holds_68 rfl (lv_at hl 1 rfl) ?_
    refine lv_lload_n hx hb dX11_holds_69 rfl (lv_at hl 2 rfl) ?_
    obtain ⟨v4, ev4, h⟩ := lb h
    have hj : W p l e r_X11_holds s m args below meth c H locs 0 0 Q (F0 m 79 ls [.int v4]) := by
      subst h
      exact hR _ _ _ _ _ Z dX11_holds_79 (nar_b _)
    refine g_llt (tgt := 78) hx hb dX11_holds_70 dX11_holds_71 (by decide) (fun c71 => ?_) (fun c71 => ?_)
    · rw [if_pos c71] at ev4
      refine lv_iconst (v := 0) hx hb dX11_holds_78 (by decide) ?_
      exact tn_i ev4 hj
    · rw [if_neg c71] at ev4
      refine lv_iconst (v := 1) hx hb dX11_holds_74 (by decide) ?_
      refine lv_goto (tgt := 79) hx hb dX11_holds_75 (by decide) ?_
      exact tn_i ev4 hj
  have h := im h c1_3
  refine lv_tableOut (tgt := 80) hx hb dX11_holds_1 ?_ (by decide) ?_
  · have t0 : ¬ x0.toInt = 0 := fun e => c1_0 (i32_of (b := 0) (n := 0) e (by decide)); have t1 : ¬ x0.toInt = 1 := fun e => c1_1 (i32_of (b := 1) (n := 1) e (by decide)); have t2 : ¬ x0.toInt = 2 := fun e => c1_2 (i32_of (b := 2) (n := 2) e (by decide)); have t3 : ¬ x0.toInt = 3 := fun e => c1_3 (i32_of (b := 3) (n := 3) e (by decide)); omega
  · refine lv_lload_n hx hb dX11_holds_80 rfl (lv_at hl 1 rfl) ?_
    refine lv_lload_n hx hb dX11_holds_81 rfl (lv_at hl 2 rfl) ?_
    obtain ⟨v5, ev5, h⟩ := lb h
    have hj : W p l e r_X11_holds s m args below meth c H locs 0 0 Q (F0 m 91 ls [.int v5]) := by
      subst h
      exact hR _ _ _ _ _ Z dX11_holds_91 (nar_b _)
    refine g_lle (tgt := 90) hx hb dX11_holds_82 dX11_holds_83 (by decide) (fun c83 => ?_) (fun c83 => ?_)
    · rw [if_pos c83] at ev5
      refine lv_iconst (v := 0) hx hb dX11_holds_90 (by decide) ?_
      exact tn_i ev5 hj
    · rw [if_neg c83] at ev5
      refine lv_iconst (v := 1) hx hb dX11_holds_86 (by decide) ?_
      refine lv_goto (tgt := 91) hx hb dX11_holds_87 (by decide) ?_
      exact tn_i ev5 hj
theorem k_X11_holds {l : Launch} {kc : Nat → ClassId} {ad : Nat → Nat} {D : va_G} (x0 : Int32) (x1 : Int64) (x3 : Int64) (σ : St) : KC eM tM kc ad D l yX11_holds (.code yX11_holds cX11_holds 5 (some .boolean)) r_X11_holds [.int x0, .long x1, .long x3] (some (.int (f_X11_holds x0 x1 x3))) σ σ := by
  refine g_enter (by decide) (Nat.le_of_ble_eq_true rfl) ?_
  intro p e s m args below meth c A hA C hr hlocks Z ls hl
  have hl : lv_has ls 5 [(0, .int x0), (1, .long x1), (3, .long x3)] := hl
  exact w_X11_holds_0 C (g_RTi C.1.1 C.1.2.1 hr hlocks hA)  Z hl rfl
def r_X11_works : Room := { frames := 1, cells := 0, slots := 0, locals := 24 }
set_option maxRecDepth 20000 in
theorem w_X11_works_274 {p : Program} {l : Launch} {e : Env} {s : State} {m : MethodId} {args : Array Value} {below : List Frame} {meth : Method} {c : Code} {Q : State → Prop} {D : va_G} {kc : Nat → ClassId} {ad : Nat → Nat} {A : Nat → Prop} (C : Cx eM p s m args c cX11_works 11 RX11 D kc A) {R : Int64 × St} {x2 : Int32} {x3 : Int32} {x4 : Int32} {x5 : Int32} {σ : St} (hR : RTl 0 0 p l e r_X11_works s m args below meth c cX11_works tM kc ad D A Q R.1 R.2) {k12 : Int32 → Int32 → St → Option (Int64 × St)} (hk12 : ∀ (x4 : Int32) (x5 : Int32) (σ : St) (H : Heap) (locs : List Loc) (ls : Array Slot), Dy tM kc ad D A s.heap σ H locs → lv_has ls 11 [(0, .ref (ad 0)), (2, .int x2), (3, .int x3), (4, .int x4), (5, .int x5)] → k12 x4 x5 σ = some R → W p l e r_X11_works s m args below meth c H locs 0 0 Q (F0 m 12 ls [])) {H : Heap} {locs : List Loc} {ls : Array Slot} (Z : Dy tM kc ad D A s.heap σ H locs) (hl : lv_has ls 11 [(0, .ref (ad 0)), (2, .int x2), (3, .int x3), (4, .int x4), (5, .int x5)]) (h : f_X11_works_274 x2 x3 x4 x5 σ k12 = some R) : W p l e r_X11_works s m args below meth c H locs 0 0 Q (F0 m 274 ls []) := by
  have hx := C.1.1
  have hb := C.1.2.1
  unfold f_X11_works_274 at h
  obtain ⟨v55, ev55, h⟩ := lb h
  refine lv_iinc (v := v55) (lv' := [(5, .int v55), (0, .ref (ad 0)), (2, .int x2), (3, .int x3), (4, .int x4)]) hx hb dX11_works_274 hl (k := 4) rfl (by rw [ev55]; rfl) (by decide) rfl (fun ls hl => ?_)
  refine lv_goto (tgt := 12) hx hb dX11_works_277 (by decide) ?_
  exact hk12 _ _ _ _ _ _ Z (lv_sub hl [1, 2, 3, 4, 0] rfl) h
set_option maxRecDepth 20000 in
theorem w_X11_works_77 {p : Program} {l : Launch} {e : Env} {s : State} {m : MethodId} {args : Array Value} {below : List Frame} {meth : Method} {c : Code} {Q : State → Prop} {D : va_G} {kc : Nat → ClassId} {ad : Nat → Nat} {A : Nat → Prop} (C : Cx eM p s m args c cX11_works 11 RX11 D kc A) {R : Int64 × St} {x2 : Int32} {x3 : Int32} {x4 : Int32} {x5 : Int32} {y1 : Int32} {y2 : Int64} {σ : St} (hR : RTl 0 0 p l e r_X11_works s m args below meth c cX11_works tM kc ad D A Q R.1 R.2) {k12 : Int32 → Int32 → St → Option (Int64 × St)} (hk12 : ∀ (x4 : Int32) (x5 : Int32) (σ : St) (H : Heap) (locs : List Loc) (ls : Array Slot), Dy tM kc ad D A s.heap σ H locs → lv_has ls 11 [(0, .ref (ad 0)), (2, .int x2), (3, .int x3), (4, .int x4), (5, .int x5)] → k12 x4 x5 σ = some R → W p l e r_X11_works s m args below meth c H locs 0 0 Q (F0 m 12 ls [])) {H : Heap} {locs : List Loc} {ls : Array Slot} (Z : Dy tM kc ad D A s.heap σ H locs) (hl : lv_has ls 11 [(0, .ref (ad 0)), (2, .int x2), (3, .int x3), (4, .int x4), (5, .int x5)]) (h : f_X11_works_77 x2 x3 x4 x5 y1 y2 σ k12 = some R) : W p l e r_X11_works s m args below meth c H locs 0 0 Q (F0 m 77 ls [.long y2, .int y1, .ref (ad 33)]) := by
  have hx := C.1.1
  have hb := C.1.2.1
  unfold f_X11_works_77 at h
  obtain ⟨σ52, hσ52, h⟩ := ob h
  refine g_last C Z iaM33 hσ52 dX11_works_77 (fun H locs Z => ?_)
  obtain ⟨v53, ev53, h⟩ := lb h
  refine lv_iinc (v := v53) (lv' := [(4, .int v53), (0, .ref (ad 0)), (2, .int x2), (3, .int x3), (5, .int x5)]) hx hb dX11_works_78 hl (k := 3) rfl (by rw [ev53]; rfl) (by decide) rfl (fun ls hl => ?_)
  refine lv_goto (tgt := 274) hx hb dX11_works_81 (by decide) ?_
  exact w_X11_works_274 C hR hk12 Z (lv_sub hl [1, 2, 3, 0, 4] rfl) h
set_option maxRecDepth 20000 in
theorem w_X11_works_44 {p : Program} {l : Launch} {e : Env} {s : State} {m : MethodId} {args : Array Value} {below : List Frame} {meth : Method} {c : Code} {Q : State → Prop} {D : va_G} {kc : Nat → ClassId} {ad : Nat → Nat} {A : Nat → Prop} (C : Cx eM p s m args c cX11_works 11 RX11 D kc A) {R : Int64 × St} {x2 : Int32} {x3 : Int32} {x4 : Int32} {x5 : Int32} {x6 : Int32} {σ : St} (hR : RTl 0 0 p l e r_X11_works s m args below meth c cX11_works tM kc ad D A Q R.1 R.2) {k12 : Int32 → Int32 → St → Option (Int64 × St)} (hk12 : ∀ (x4 : Int32) (x5 : Int32) (σ : St) (H : Heap) (locs : List Loc) (ls : Array Slot), Dy tM kc ad D A s.heap σ H locs → lv_has ls 11 [(0, .ref (ad 0)), (2, .int x2), (3, .int x3), (4, .int x4), (5, .int x5)] → k12 x4 x5 σ = some R → W p l e r_X11_works s m args below meth c H locs 0 0 Q (F0 m 12 ls [])) {H : Heap} {locs : List Loc} {ls : Array Slot} (Z : Dy tM kc ad D A s.heap σ H locs) (hl : lv_has ls 11 [(0, .ref (ad 0)), (2, .int x2), (3, .int x3), (4, .int x4), (5, .int x5), (6, .int x6)]) (h : f_X11_works_44 x2 x3 x4 x5 x6 σ k12 = some R) : W p l e r_X11_works s m args below meth c H locs 0 0 Q (F0 m 44 ls []) := by
  have hx := C.1.1
  have hb := C.1.2.1
  unfold f_X11_works_44 at h
  refine lv_aload_n hx hb dX11_works_44 rfl (lv_at hl 0 rfl) ?_
  refine rg_X11_136 C Z dX11_works_45 ?_
  refine lv_iload hx hb dX11_works_48 (lv_at hl 3 rfl) ?_
  refine lv_iload hx hb dX11_works_50 (lv_at hl 5 rfl) ?_
  refine lv_if_ne (tgt := 66) hx hb dX11_works_52 (by decide) (fun c52 => ?_) (fun c52 => ?_)
  · have h := im h c52
    refine lv_aload_n hx hb dX11_works_66 rfl (lv_at hl 0 rfl) ?_
    refine lv_aload_n hx hb dX11_works_67 rfl (lv_at hl 0 rfl) ?_
    refine rg_X11_95 C Z dX11_works_68 ?_
    refine lv_iload hx hb dX11_works_71 (lv_at hl 4 rfl) ?_
    obtain ⟨v49, hv49, h⟩ := ob h
    refine g_iald C Z iaM29 hv49 dX11_works_73 ?_
    obtain ⟨v50, hv50, h⟩ := ob h
    refine g_callVl eM_ok C Z (k_X11_wordNow hv50) lk_X11_454 (by decide) rfl rfl hl (by decide) rfl (Nat.le_of_ble_eq_true rfl) (rest := [.int x4, .ref (ad 33)]) rfl dX11_works_74 (fun H locs Z => ?_)
    exact w_X11_works_77 C hR hk12 Z (lv_sub hl [0, 1, 2, 3, 4] rfl) h
  · have h := ip h c52
    refine lv_aload_n hx hb dX11_works_55 rfl (lv_at hl 0 rfl) ?_
    refine rg_X11_95 C Z dX11_works_56 ?_
    refine lv_iload hx hb dX11_works_59 (lv_at hl 4 rfl) ?_
    obtain ⟨v51, hv51, h⟩ := ob h
    refine g_iald C Z iaM29 hv51 dX11_works_61 ?_
    refine lv_i2l (v := v51.toInt64) hx hb dX11_works_62 rfl ?_
    refine lv_goto (tgt := 77) hx hb dX11_works_63 (by decide) ?_
    exact w_X11_works_77 C hR hk12 Z (lv_sub hl [0, 1, 2, 3, 4] rfl) h
set_option maxRecDepth 20000 in
theorem w_X11_works_184 {p : Program} {l : Launch} {e : Env} {s : State} {m : MethodId} {args : Array Value} {below : List Frame} {meth : Method} {c : Code} {Q : State → Prop} {D : va_G} {kc : Nat → ClassId} {ad : Nat → Nat} {A : Nat → Prop} (C : Cx eM p s m args c cX11_works 11 RX11 D kc A) {R : Int64 × St} {x2 : Int32} {x3 : Int32} {x4 : Int32} {x5 : Int32} {y1 : Int32} {y2 : Int64} {σ : St} (hR : RTl 0 0 p l e r_X11_works s m args below meth c cX11_works tM kc ad D A Q R.1 R.2) {k12 : Int32 → Int32 → St → Option (Int64 × St)} (hk12 : ∀ (x4 : Int32) (x5 : Int32) (σ : St) (H : Heap) (locs : List Loc) (ls : Array Slot), Dy tM kc ad D A s.heap σ H locs → lv_has ls 11 [(0, .ref (ad 0)), (2, .int x2), (3, .int x3), (4, .int x4), (5, .int x5)] → k12 x4 x5 σ = some R → W p l e r_X11_works s m args below meth c H locs 0 0 Q (F0 m 12 ls [])) {H : Heap} {locs : List Loc} {ls : Array Slot} (Z : Dy tM kc ad D A s.heap σ H locs) (hl : lv_has ls 11 [(0, .ref (ad 0)), (2, .int x2), (3, .int x3), (4, .int x4), (5, .int x5)]) (h : f_X11_works_184 x2 x3 x4 x5 y1 y2 σ k12 = some R) : W p l e r_X11_works s m args below meth c H locs 0 0 Q (F0 m 184 ls [.long y2, .int y1, .ref (ad 33)]) := by
  have hx := C.1.1
  have hb := C.1.2.1
  unfold f_X11_works_184 at h
  obtain ⟨σ54, hσ54, h⟩ := ob h
  refine g_last C Z iaM33 hσ54 dX11_works_184 (fun H locs Z => ?_)
  refine lv_goto (tgt := 274) hx hb dX11_works_185 (by decide) ?_
  exact w_X11_works_274 C hR hk12 Z (lv_sub hl [0, 1, 2, 3, 4] rfl) h
set_option maxRecDepth 20000 in
theorem w_X11_works_280 {p : Program} {l : Launch} {e : Env} {s : State} {m : MethodId} {args : Array Value} {below : List Frame} {meth : Method} {c : Code} {Q : State → Prop} {D : va_G} {kc : Nat → ClassId} {ad : Nat → Nat} {A : Nat → Prop} (C : Cx eM p s m args c cX11_works 11 RX11 D kc A) {R : Int64 × St} {σ : St} (hR : RTl 0 0 p l e r_X11_works s m args below meth c cX11_works tM kc ad D A Q R.1 R.2) {H : Heap} {locs : List Loc} {ls : Array Slot} (Z : Dy tM kc ad D A s.heap σ H locs) (hl : lv_has ls 11 [(0, .ref (ad 0))]) (h : f_X11_works_280 σ = some R) : W p l e r_X11_works s m args below meth c H locs 0 0 Q (F0 m 280 ls []) := by
  have hx := C.1.1
  have hb := C.1.2.1
  unfold f_X11_works_280 at h
  refine lv_aload_n hx hb dX11_works_280 rfl (lv_at hl 0 rfl) ?_
  refine rg_X11_136 C Z dX11_works_281 ?_
  refine lv_iconst (v := 0) hx hb dX11_works_284 (by decide) ?_
  obtain ⟨v56, hv56, h⟩ := ob h
  refine g_lald C Z iaM33 hv56 dX11_works_285 ?_
  obtain rfl := Option.some.inj h
  exact hR _ _ _ _ Z dX11_works_286
set_option maxRecDepth 20000 in
theorem w_X11_works_12 {p : Program} {l : Launch} {e : Env} {s : State} {m : MethodId} {args : Array Value} {below : List Frame} {meth : Method} {c : Code} {Q : State → Prop} {D : va_G} {kc : Nat → ClassId} {ad : Nat → Nat} {A : Nat → Prop} (C : Cx eM p s m args c cX11_works 11 RX11 D kc A) {R : Int64 × St} {x2 : Int32} {x3 : Int32} (hR : RTl 0 0 p l e r_X11_works s m args below meth c cX11_works tM kc ad D A Q R.1 R.2) : ∀ (n : Nat) (x4 : Int32) (x5 : Int32) (σ : St) (H : Heap) (locs : List Loc) (ls : Array Slot), Dy tM kc ad D A s.heap σ H locs → lv_has ls 11 [(0, .ref (ad 0)), (2, .int x2), (3, .int x3), (4, .int x4), (5, .int x5)] → f_X11_works_12 x2 x3 n x4 x5 σ = some R → W p l e r_X11_works s m args below meth c H locs 0 0 Q (F0 m 12 ls []) := by
  have hx := C.1.1
  have hb := C.1.2.1
  intro n
  induction n with
  | zero =>
    intro x4 x5 σ H locs ls Z hl h
    exact absurd (show none = some R from h) (by simp)
  | succ n ih =>
    intro x4 x5 σ H locs ls Z hl h
    rw [f_X11_works_12] at h
    refine lv_iload hx hb dX11_works_12 (lv_at hl 4 rfl) ?_
    refine lv_sipush (v := 420) hx hb dX11_works_14 (by decide) ?_
    refine lv_iload_n hx hb dX11_works_17 rfl (lv_at hl 2 rfl) ?_
    refine lv_imul hx hb dX11_works_18 ?_
    refine lv_iload_n hx hb dX11_works_19 rfl (lv_at hl 1 rfl) ?_
    refine lv_iadd hx hb dX11_works_20 ?_
    refine lv_icmp_ge (tgt := 280) hx hb dX11_works_21 (by decide) (fun c21 => ?_) (fun c21 => ?_)
    · have h := ip h c21
      exact w_X11_works_280 C hR Z (lv_sub hl [0] rfl) h
    · have h := im h c21
      refine lv_aload_n hx hb dX11_works_24 rfl (lv_at hl 0 rfl) ?_
      refine rg_X11_92 C Z dX11_works_25 ?_
      refine lv_iload hx hb dX11_works_28 (lv_at hl 4 rfl) ?_
      obtain ⟨v38, hv38, h⟩ := ob h
      refine g_iald C Z iaM28 hv38 dX11_works_30 ?_
      refine lv_istore (lv' := [(6, .int v38), (0, .ref (ad 0)), (2, .int x2), (3, .int x3), (4, .int x4), (5, .int x5)]) hx hb dX11_works_31 hl (by decide) rfl (fun ls hl => ?_)
      refine lv_iload hx hb dX11_works_33 (lv_at hl 0 rfl) ?_
      refine lv_if_eq (tgt := 44) hx hb dX11_works_35 (by decide) (fun c35 => ?_) (fun c35 => ?_)
      · have h := ip h c35
        exact w_X11_works_44 C hR ih Z (lv_sub hl [1, 2, 3, 4, 5, 0] rfl) h
      · have h := im h c35
        refine lv_iload hx hb dX11_works_38 (lv_at hl 0 rfl) ?_
        refine lv_iconst (v := 1) hx hb dX11_works_40 (by decide) ?_
        refine lv_icmp_ne (tgt := 84) hx hb dX11_works_41 (by decide) (fun c41 => ?_) (fun c41 => ?_)
        · have h := im h c41
          refine lv_iload hx hb dX11_works_84 (lv_at hl 0 rfl) ?_
          refine lv_bipush (v := 10) hx hb dX11_works_86 (by decide) ?_
          refine lv_icmp_ne (tgt := 114) hx hb dX11_works_88 (by decide) (fun c88 => ?_) (fun c88 => ?_)
          · have h := im h c88
            obtain ⟨v39, ev39, h⟩ := lb h
            refine lv_iinc (v := v39) (lv' := [(4, .int v39), (6, .int v38), (0, .ref (ad 0)), (2, .int x2), (3, .int x3), (5, .int x5)]) hx hb dX11_works_114 hl (k := 4) rfl (by rw [ev39]; rfl) (by decide) rfl (fun ls hl => ?_)
            refine lv_aload_n hx hb dX11_works_117 rfl (lv_at hl 2 rfl) ?_
            refine rg_X11_136 C Z dX11_works_118 ?_
            refine lv_iload hx hb dX11_works_121 (lv_at hl 0 rfl) ?_
            refine lv_iconst (v := 1) hx hb dX11_works_123 (by decide) ?_
            refine lv_isub hx hb dX11_works_124 ?_
            obtain ⟨v40, hv40, h⟩ := ob h
            refine g_lald C Z iaM33 hv40 dX11_works_125 ?_
            refine lv_lstore (lv' := [(7, .long v40), (4, .int v39), (6, .int v38), (0, .ref (ad 0)), (2, .int x2), (3, .int x3), (5, .int x5)]) hx hb dX11_works_126 hl (by decide) rfl (fun ls hl => ?_)
            refine lv_aload_n hx hb dX11_works_128 rfl (lv_at hl 3 rfl) ?_
            refine rg_X11_136 C Z dX11_works_129 ?_
            refine lv_iload hx hb dX11_works_132 (lv_at hl 1 rfl) ?_
            obtain ⟨v41, hv41, h⟩ := ob h
            refine g_lald C Z iaM33 hv41 dX11_works_134 ?_
            refine lv_lstore (lv' := [(9, .long v41), (7, .long v40), (4, .int v39), (6, .int v38), (0, .ref (ad 0)), (2, .int x2), (3, .int x3), (5, .int x5)]) hx hb dX11_works_135 hl (by decide) rfl (fun ls hl => ?_)
            refine lv_iload hx hb dX11_works_137 (lv_at hl 3 rfl) ?_
            refine lv_iconst (v := 5) hx hb dX11_works_139 (by decide) ?_
            refine lv_icmp_ge (tgt := 188) hx hb dX11_works_140 (by decide) (fun c140 => ?_) (fun c140 => ?_)
            · have h := ip h c140
              refine lv_iload hx hb dX11_works_188 (lv_at hl 3 rfl) ?_
              refine lv_bipush (v := 11) hx hb dX11_works_190 (by decide) ?_
              refine lv_icmp_ne (tgt := 212) hx hb dX11_works_192 (by decide) (fun c192 => ?_) (fun c192 => ?_)
              · have h := im h c192
                refine lv_iload hx hb dX11_works_212 (lv_at hl 3 rfl) ?_
                refine lv_bipush (v := 12) hx hb dX11_works_214 (by decide) ?_
                refine lv_icmp_ne (tgt := 246) hx hb dX11_works_216 (by decide) (fun c216 => ?_) (fun c216 => ?_)
                · have h := im h c216
                  refine lv_aload_n hx hb dX11_works_246 rfl (lv_at hl 4 rfl) ?_
                  refine rg_X11_136 C Z dX11_works_247 ?_
                  refine lv_iload hx hb dX11_works_250 (lv_at hl 2 rfl) ?_
                  refine lv_iconst (v := 1) hx hb dX11_works_252 (by decide) ?_
                  refine lv_isub hx hb dX11_works_253 ?_
                  refine lv_iload hx hb dX11_works_254 (lv_at hl 3 rfl) ?_
                  refine lv_iconst (v := 5) hx hb dX11_works_256 (by decide) ?_
                  refine lv_isub hx hb dX11_works_257 ?_
                  refine lv_lload hx hb dX11_works_258 (lv_at hl 1 rfl) ?_
                  refine lv_lload hx hb dX11_works_260 (lv_at hl 0 rfl) ?_
                  refine g_callSi eM_ok C Z (k_X11_holds (v38 - 5) v40 v41 σ) lk_X11_458 hl (by decide) rfl (Nat.le_of_ble_eq_true rfl) (rest := [.int (v39 - 1), .ref (ad 33)]) rfl dX11_works_262 (fun H locs Z => ?_)
                  obtain ⟨v42, ev42, h⟩ := lb h
                  have hj : W p l e r_X11_works s m args below meth c H locs 0 0 Q (F0 m 273 ls [.long v42, .int (v39 - 1), .ref (ad 33)]) := by
                    obtain ⟨σ43, hσ43, h⟩ := ob h
                    refine g_last C Z iaM33 hσ43 dX11_works_273 (fun H locs Z => ?_)
                    exact w_X11_works_274 C hR ih Z (lv_sub hl [4, 5, 6, 2, 7] rfl) h
                  refine lv_if_eq (tgt := 272) hx hb dX11_works_265 (by decide) (fun c265 => ?_) (fun c265 => ?_)
                  · rw [if_pos c265] at ev42
                    refine lv_lconst (v := 0) hx hb dX11_works_272 (by decide) ?_
                    exact tn_l ev42 hj
                  · rw [if_neg c265] at ev42
                    refine lv_lconst (v := 1) hx hb dX11_works_268 (by decide) ?_
                    refine lv_goto (tgt := 273) hx hb dX11_works_269 (by decide) ?_
                    exact tn_l ev42 hj
                · have h := ip h c216
                  refine lv_aload_n hx hb dX11_works_219 rfl (lv_at hl 4 rfl) ?_
                  refine rg_X11_136 C Z dX11_works_220 ?_
                  refine lv_iload hx hb dX11_works_223 (lv_at hl 2 rfl) ?_
                  refine lv_iconst (v := 1) hx hb dX11_works_225 (by decide) ?_
                  refine lv_isub hx hb dX11_works_226 ?_
                  refine lv_lload hx hb dX11_works_227 (lv_at hl 1 rfl) ?_
                  refine lv_lload hx hb dX11_works_229 (lv_at hl 0 rfl) ?_
                  refine lv_ladd hx hb dX11_works_231 ?_
                  refine lv_lconst (v := 0) hx hb dX11_works_232 (by decide) ?_
                  obtain ⟨v44, ev44, h⟩ := lb h
                  have hj : W p l e r_X11_works s m args below meth c H locs 0 0 Q (F0 m 242 ls [.long v44, .int (v39 - 1), .ref (ad 33)]) := by
                    obtain ⟨σ45, hσ45, h⟩ := ob h
                    refine g_last C Z iaM33 hσ45 dX11_works_242 (fun H locs Z => ?_)
                    refine lv_goto (tgt := 274) hx hb dX11_works_243 (by decide) ?_
                    exact w_X11_works_274 C hR ih Z (lv_sub hl [4, 5, 6, 2, 7] rfl) h
                  refine g_lle (tgt := 241) hx hb dX11_works_233 dX11_works_234 (by decide) (fun c234 => ?_) (fun c234 => ?_)
                  · rw [if_pos c234] at ev44
                    refine lv_lconst (v := 0) hx hb dX11_works_241 (by decide) ?_
                    exact tn_l ev44 hj
                  · rw [if_neg c234] at ev44
                    refine lv_lconst (v := 1) hx hb dX11_works_237 (by decide) ?_
                    refine lv_goto (tgt := 242) hx hb dX11_works_238 (by decide) ?_
                    exact tn_l ev44 hj
              · have h := ip h c192
                refine lv_aload_n hx hb dX11_works_195 rfl (lv_at hl 4 rfl) ?_
                refine rg_X11_136 C Z dX11_works_196 ?_
                refine lv_iload hx hb dX11_works_199 (lv_at hl 2 rfl) ?_
                refine lv_iconst (v := 1) hx hb dX11_works_201 (by decide) ?_
                refine lv_isub hx hb dX11_works_202 ?_
                refine lv_lload hx hb dX11_works_203 (lv_at hl 1 rfl) ?_
                refine lv_lload hx hb dX11_works_205 (lv_at hl 0 rfl) ?_
                refine lv_lmul hx hb dX11_works_207 ?_
                obtain ⟨σ46, hσ46, h⟩ := ob h
                refine g_last C Z iaM33 hσ46 dX11_works_208 (fun H locs Z => ?_)
                refine lv_goto (tgt := 274) hx hb dX11_works_209 (by decide) ?_
                exact w_X11_works_274 C hR ih Z (lv_sub hl [4, 5, 6, 2, 7] rfl) h
            · have h := im h c140
              refine lv_aload_n hx hb dX11_works_143 rfl (lv_at hl 4 rfl) ?_
              refine rg_X11_136 C Z dX11_works_144 ?_
              refine lv_iload hx hb dX11_works_147 (lv_at hl 2 rfl) ?_
              refine lv_iconst (v := 1) hx hb dX11_works_149 (by decide) ?_
              refine lv_isub hx hb dX11_works_150 ?_
              refine lv_iload hx hb dX11_works_151 (lv_at hl 3 rfl) ?_
              refine lv_iconst (v := 2) hx hb dX11_works_153 (by decide) ?_
              refine lv_icmp_ne (tgt := 165) hx hb dX11_works_154 (by decide) (fun c154 => ?_) (fun c154 => ?_)
              · have h := im h c154
                refine lv_iload hx hb dX11_works_165 (lv_at hl 3 rfl) ?_
                refine lv_iconst (v := 3) hx hb dX11_works_167 (by decide) ?_
                refine lv_icmp_ne (tgt := 179) hx hb dX11_works_168 (by decide) (fun c168 => ?_) (fun c168 => ?_)
                · have h := im h c168
                  refine lv_lload hx hb dX11_works_179 (lv_at hl 1 rfl) ?_
                  refine lv_lload hx hb dX11_works_181 (lv_at hl 0 rfl) ?_
                  refine lv_lsub hx hb dX11_works_183 ?_
                  exact w_X11_works_184 C hR ih Z (lv_sub hl [4, 5, 6, 2, 7] rfl) h
                · have h := ip h c168
                  refine lv_lload hx hb dX11_works_171 (lv_at hl 1 rfl) ?_
                  refine lv_lload hx hb dX11_works_173 (lv_at hl 0 rfl) ?_
                  refine lv_ladd hx hb dX11_works_175 ?_
                  refine lv_goto (tgt := 184) hx hb dX11_works_176 (by decide) ?_
                  exact w_X11_works_184 C hR ih Z (lv_sub hl [4, 5, 6, 2, 7] rfl) h
              · have h := ip h c154
                refine lv_lload hx hb dX11_works_157 (lv_at hl 1 rfl) ?_
                refine lv_lload hx hb dX11_works_159 (lv_at hl 0 rfl) ?_
                refine lv_lmul hx hb dX11_works_161 ?_
                refine lv_goto (tgt := 184) hx hb dX11_works_162 (by decide) ?_
                exact w_X11_works_184 C hR ih Z (lv_sub hl [4, 5, 6, 2, 7] rfl) h
          · have h := ip h c88
            refine lv_aload_n hx hb dX11_works_91 rfl (lv_at hl 1 rfl) ?_
            refine rg_X11_136 C Z dX11_works_92 ?_
            refine lv_iload hx hb dX11_works_95 (lv_at hl 4 rfl) ?_
            refine lv_iconst (v := 1) hx hb dX11_works_97 (by decide) ?_
            refine lv_isub hx hb dX11_works_98 ?_
            refine lv_lconst (v := 1) hx hb dX11_works_99 (by decide) ?_
            refine lv_aload_n hx hb dX11_works_100 rfl (lv_at hl 1 rfl) ?_
            refine rg_X11_136 C Z dX11_works_101 ?_
            refine lv_iload hx hb dX11_works_104 (lv_at hl 4 rfl) ?_
            refine lv_iconst (v := 1) hx hb dX11_works_106 (by decide) ?_
            refine lv_isub hx hb dX11_works_107 ?_
            obtain ⟨v47, hv47, h⟩ := ob h
            refine g_lald C Z iaM33 hv47 dX11_works_108 ?_
            refine lv_lsub hx hb dX11_works_109 ?_
            obtain ⟨σ48, hσ48, h⟩ := ob h
            refine g_last C Z iaM33 hσ48 dX11_works_110 (fun H locs Z => ?_)
            refine lv_goto (tgt := 274) hx hb dX11_works_111 (by decide) ?_
            exact w_X11_works_274 C hR ih Z (lv_sub hl [1, 2, 3, 4, 5] rfl) h
        · have h := ip h c41
          exact w_X11_works_44 C hR ih Z (lv_sub hl [1, 2, 3, 4, 5, 0] rfl) h
set_option maxRecDepth 20000 in
theorem w_X11_works_0 {p : Program} {l : Launch} {e : Env} {s : State} {m : MethodId} {args : Array Value} {below : List Frame} {meth : Method} {c : Code} {Q : State → Prop} {D : va_G} {kc : Nat → ClassId} {ad : Nat → Nat} {A : Nat → Prop} (C : Cx eM p s m args c cX11_works 11 RX11 D kc A) {R : Int64 × St} {x1 : Int32} {x2 : Int32} {x3 : Int32} {σ : St} (hR : RTl 0 0 p l e r_X11_works s m args below meth c cX11_works tM kc ad D A Q R.1 R.2) {H : Heap} {locs : List Loc} {ls : Array Slot} (Z : Dy tM kc ad D A s.heap σ H locs) (hl : lv_has ls 11 [(0, .ref (ad 0)), (1, .int x1), (2, .int x2), (3, .int x3)]) (h : f_X11_works x1 x2 x3 σ = some R) : W p l e r_X11_works s m args below meth c H locs 0 0 Q (F0 m 0 ls []) := by
  have hx := C.1.1
  have hb := C.1.2.1
  unfold f_X11_works at h
  refine lv_iconst (v := 0) hx hb dX11_works_0 (by decide) ?_
  refine lv_istore (lv' := [(4, .int 0), (0, .ref (ad 0)), (1, .int x1), (2, .int x2), (3, .int x3)]) hx hb dX11_works_1 hl (by decide) rfl (fun ls hl => ?_)
  refine lv_sipush (v := 420) hx hb dX11_works_3 (by decide) ?_
  refine lv_iload_n hx hb dX11_works_6 rfl (lv_at hl 4 rfl) ?_
  refine lv_imul hx hb dX11_works_7 ?_
  refine lv_iload_n hx hb dX11_works_8 rfl (lv_at hl 2 rfl) ?_
  refine lv_iadd hx hb dX11_works_9 ?_
  obtain ⟨v37, ev37, h⟩ := lb h
  refine tn_i ev37 ?_
  refine lv_istore (lv' := [(5, .int v37), (4, .int 0), (0, .ref (ad 0)), (1, .int x1), (2, .int x2), (3, .int x3)]) hx hb dX11_works_10 hl (by decide) rfl (fun ls hl => ?_)
  exact w_X11_works_12 C hR _ _ _ _ _ _ _ Z (lv_sub hl [2, 4, 5, 1, 0] rfl) h
theorem k_X11_works {l : Launch} {kc : Nat → ClassId} {ad : Nat → Nat} {D : va_G} {x1 : Int32} {x2 : Int32} {x3 : Int32} {σ : St} {R : Int64 × St} (h : f_X11_works x1 x2 x3 σ = some R) : KC eM tM kc ad D l yX11_works (.code yX11_works cX11_works 11 (some .long)) r_X11_works [.ref (ad 0), .int x1, .int x2, .int x3] (some (.long R.1)) σ R.2 := by
  refine g_enter (by decide) (Nat.le_of_ble_eq_true rfl) ?_
  intro p e s m args below meth c A hA C hr hlocks Z ls hl
  have hl : lv_has ls 11 [(0, .ref (ad 0)), (1, .int x1), (2, .int x2), (3, .int x3)] := hl
  exact w_X11_works_0 C (g_RTl C.1.1 C.1.2.1 hr hlocks hA)  Z hl h
def r_X11_clauseOf : Room := { frames := 2, cells := 0, slots := 0, locals := 54 }
set_option maxRecDepth 20000 in
theorem w_X11_clauseOf_89 {p : Program} {l : Launch} {e : Env} {s : State} {m : MethodId} {args : Array Value} {below : List Frame} {meth : Method} {c : Code} {Q : State → Prop} {D : va_G} {kc : Nat → ClassId} {ad : Nat → Nat} {A : Nat → Prop} (C : Cx eM p s m args c cX11_clauseOf 4 RX11 D kc A) {R : Int32 × St} {x1 : Int32} {x2 : Int32} {x3 : Int32} {σ : St} (hR : RTi 0 0 p l e r_X11_clauseOf s m args below meth c cX11_clauseOf tM kc ad D A Q .int R.1 R.2) {k5 : Int32 → St → Option (Int32 × St)} (hk5 : ∀ (x3 : Int32) (σ : St) (H : Heap) (locs : List Loc) (ls : Array Slot), Dy tM kc ad D A s.heap σ H locs → lv_has ls 4 [(0, .ref (ad 0)), (1, .int x1), (2, .int x2), (3, .int x3)] → k5 x3 σ = some R → W p l e r_X11_clauseOf s m args below meth c H locs 0 0 Q (F0 m 5 ls [])) {H : Heap} {locs : List Loc} {ls : Array Slot} (Z : Dy tM kc ad D A s.heap σ H locs) (hl : lv_has ls 4 [(0, .ref (ad 0)), (1, .int x1), (2, .int x2), (3, .int x3)]) (h : f_X11_clauseOf_89 x1 x2 x3 σ k5 = some R) : W p l e r_X11_clauseOf s m args below meth c H locs 0 0 Q (F0 m 89 ls []) := by
  have hx := C.1.1
  have hb := C.1.2.1
  unfold f_X11_clauseOf_89 at h
  obtain ⟨v29, ev29, h⟩ := lb h
  refine lv_iinc (v := v29) (lv' := [(3, .int v29), (0, .ref (ad 0)), (1, .int x1), (2, .int x2)]) hx hb dX11_clauseOf_89 hl (k := 3) rfl (by rw [ev29]; rfl) (by decide) rfl (fun ls hl => ?_)
  refine lv_goto (tgt := 5) hx hb dX11_clauseOf_92 (by decide) ?_
  exact hk5 _ _ _ _ _ Z (lv_sub hl [1, 2, 3, 0] rfl) h
set_option maxRecDepth 20000 in
theorem w_X11_clauseOf_5 {p : Program} {l : Launch} {e : Env} {s : State} {m : MethodId} {args : Array Value} {below : List Frame} {meth : Method} {c : Code} {Q : State → Prop} {D : va_G} {kc : Nat → ClassId} {ad : Nat → Nat} {A : Nat → Prop} (C : Cx eM p s m args c cX11_clauseOf 4 RX11 D kc A) {R : Int32 × St} {x1 : Int32} {x2 : Int32} (hR : RTi 0 0 p l e r_X11_clauseOf s m args below meth c cX11_clauseOf tM kc ad D A Q .int R.1 R.2) : ∀ (n : Nat) (x3 : Int32) (σ : St) (H : Heap) (locs : List Loc) (ls : Array Slot), Dy tM kc ad D A s.heap σ H locs → lv_has ls 4 [(0, .ref (ad 0)), (1, .int x1), (2, .int x2), (3, .int x3)] → f_X11_clauseOf_5 x1 x2 n x3 σ = some R → W p l e r_X11_clauseOf s m args below meth c H locs 0 0 Q (F0 m 5 ls []) := by
  have hx := C.1.1
  have hb := C.1.2.1
  intro n
  induction n with
  | zero =>
    intro x3 σ H locs ls Z hl h
    exact absurd (show none = some R from h) (by simp)
  | succ n ih =>
    intro x3 σ H locs ls Z hl h
    rw [f_X11_clauseOf_5] at h
    refine lv_iload_n hx hb dX11_clauseOf_5 rfl (lv_at hl 3 rfl) ?_
    refine lv_bipush (v := 12) hx hb dX11_clauseOf_6 (by decide) ?_
    refine lv_iload_n hx hb dX11_clauseOf_8 rfl (lv_at hl 1 rfl) ?_
    refine lv_imul hx hb dX11_clauseOf_9 ?_
    refine lv_aload_n hx hb dX11_clauseOf_10 rfl (lv_at hl 0 rfl) ?_
    refine rg_X11_71 C Z dX11_clauseOf_11 ?_
    refine lv_iload_n hx hb dX11_clauseOf_14 rfl (lv_at hl 1 rfl) ?_
    obtain ⟨v20, hv20, h⟩ := ob h
    refine g_iald C Z iaM21 hv20 dX11_clauseOf_15 ?_
    refine lv_iadd hx hb dX11_clauseOf_16 ?_
    refine lv_icmp_ge (tgt := 95) hx hb dX11_clauseOf_17 (by decide) (fun c17 => ?_) (fun c17 => ?_)
    · have h := ip h c17
      refine lv_iconst (v := (-1)) hx hb dX11_clauseOf_95 (by decide) ?_
      obtain rfl := Option.some.inj h
      exact hR _ _ _ _ _ Z dX11_clauseOf_96 rfl
    · have h := im h c17
      refine lv_aload_n hx hb dX11_clauseOf_20 rfl (lv_at hl 0 rfl) ?_
      refine rg_X11_74 C Z dX11_clauseOf_21 ?_
      refine lv_iload_n hx hb dX11_clauseOf_24 rfl (lv_at hl 3 rfl) ?_
      obtain ⟨v21, hv21, h⟩ := ob h
      refine g_iald C Z iaM22 hv21 dX11_clauseOf_25 ?_
      refine lv_iload_n hx hb dX11_clauseOf_26 rfl (lv_at hl 2 rfl) ?_
      refine lv_icmp_eq (tgt := 33) hx hb dX11_clauseOf_27 (by decide) (fun c27 => ?_) (fun c27 => ?_)
      · have h := ip h c27
        refine lv_aload_n hx hb dX11_clauseOf_33 rfl (lv_at hl 0 rfl) ?_
        refine rg_X11_89 C Z dX11_clauseOf_34 ?_
        refine lv_iload_n hx hb dX11_clauseOf_37 rfl (lv_at hl 3 rfl) ?_
        obtain ⟨v22, hv22, h⟩ := ob h
        refine g_iald C Z iaM27 hv22 dX11_clauseOf_38 ?_
        refine lv_if_eq (tgt := 87) hx hb dX11_clauseOf_39 (by decide) (fun c39 => ?_) (fun c39 => ?_)
        · have h := ip h c39
          refine lv_iload_n hx hb dX11_clauseOf_87 rfl (lv_at hl 3 rfl) ?_
          obtain rfl := Option.some.inj h
          exact hR _ _ _ _ _ Z dX11_clauseOf_88 rfl
        · have h := im h c39
          refine lv_aload_n hx hb dX11_clauseOf_42 rfl (lv_at hl 0 rfl) ?_
          refine lv_aload_n hx hb dX11_clauseOf_43 rfl (lv_at hl 0 rfl) ?_
          refine rg_X11_83 C Z dX11_clauseOf_44 ?_
          refine lv_iload_n hx hb dX11_clauseOf_47 rfl (lv_at hl 3 rfl) ?_
          obtain ⟨v23, hv23, h⟩ := ob h
          refine g_iald C Z iaM25 hv23 dX11_clauseOf_48 ?_
          refine lv_aload_n hx hb dX11_clauseOf_49 rfl (lv_at hl 0 rfl) ?_
          refine rg_X11_86 C Z dX11_clauseOf_50 ?_
          refine lv_iload_n hx hb dX11_clauseOf_53 rfl (lv_at hl 3 rfl) ?_
          obtain ⟨v24, hv24, h⟩ := ob h
          refine g_iald C Z iaM26 hv24 dX11_clauseOf_54 ?_
          refine lv_iload_n hx hb dX11_clauseOf_55 rfl (lv_at hl 1 rfl) ?_
          obtain ⟨u25, hu25, h⟩ := ob h
          refine g_callVl eM_ok C Z (k_X11_works hu25) lk_X11_300 (by decide) rfl rfl hl (by decide) rfl (Nat.le_of_ble_eq_true rfl) (rest := []) rfl dX11_clauseOf_56 (fun H locs Z => ?_)
          refine lv_lconst (v := 1) hx hb dX11_clauseOf_59 (by decide) ?_
          obtain ⟨v26, ev26, h⟩ := lb h
          have hj : W p l e r_X11_clauseOf s m args below meth c H locs 0 0 Q (F0 m 69 ls [.int v26]) := by
            refine lv_aload_n hx hb dX11_clauseOf_69 rfl (lv_at hl 0 rfl) ?_
            refine rg_X11_89 C Z dX11_clauseOf_70 ?_
            refine lv_iload_n hx hb dX11_clauseOf_73 rfl (lv_at hl 3 rfl) ?_
            obtain ⟨v27, hv27, h⟩ := ob h
            refine g_iald C Z iaM27 hv27 dX11_clauseOf_74 ?_
            refine lv_iconst (v := 1) hx hb dX11_clauseOf_75 (by decide) ?_
            obtain ⟨v28, ev28, h⟩ := lb h
            have hj : W p l e r_X11_clauseOf s m args below meth c H locs 0 0 Q (F0 m 84 ls [.int v28, .int v26]) := by
              refine lv_icmp_ne (tgt := 89) hx hb dX11_clauseOf_84 (by decide) (fun c84 => ?_) (fun c84 => ?_)
              · have h := im h c84
                exact w_X11_clauseOf_89 C hR ih Z (lv_sub hl [0, 1, 2, 3] rfl) h
              · have h := ip h c84
                refine lv_iload_n hx hb dX11_clauseOf_87 rfl (lv_at hl 3 rfl) ?_
                obtain rfl := Option.some.inj h
                exact hR _ _ _ _ _ Z dX11_clauseOf_88 rfl
            refine lv_icmp_ne (tgt := 83) hx hb dX11_clauseOf_76 (by decide) (fun c76 => ?_) (fun c76 => ?_)
            · rw [if_neg c76] at ev28
              refine lv_iconst (v := 0) hx hb dX11_clauseOf_83 (by decide) ?_
              exact tn_i ev28 hj
            · rw [if_pos c76] at ev28
              refine lv_iconst (v := 1) hx hb dX11_clauseOf_79 (by decide) ?_
              refine lv_goto (tgt := 84) hx hb dX11_clauseOf_80 (by decide) ?_
              exact tn_i ev28 hj
          refine g_lne (tgt := 68) hx hb dX11_clauseOf_60 dX11_clauseOf_61 (by decide) (fun c61 => ?_) (fun c61 => ?_)
          · rw [if_neg c61] at ev26
            refine lv_iconst (v := 0) hx hb dX11_clauseOf_68 (by decide) ?_
            exact tn_i ev26 hj
          · rw [if_pos c61] at ev26
            refine lv_iconst (v := 1) hx hb dX11_clauseOf_64 (by decide) ?_
            refine lv_goto (tgt := 69) hx hb dX11_clauseOf_65 (by decide) ?_
            exact tn_i ev26 hj
      · have h := im h c27
        refine lv_goto (tgt := 89) hx hb dX11_clauseOf_30 (by decide) ?_
        exact w_X11_clauseOf_89 C hR ih Z (lv_sub hl [0, 1, 2, 3] rfl) h
set_option maxRecDepth 20000 in
theorem w_X11_clauseOf_0 {p : Program} {l : Launch} {e : Env} {s : State} {m : MethodId} {args : Array Value} {below : List Frame} {meth : Method} {c : Code} {Q : State → Prop} {D : va_G} {kc : Nat → ClassId} {ad : Nat → Nat} {A : Nat → Prop} (C : Cx eM p s m args c cX11_clauseOf 4 RX11 D kc A) {R : Int32 × St} {x1 : Int32} {x2 : Int32} {σ : St} (hR : RTi 0 0 p l e r_X11_clauseOf s m args below meth c cX11_clauseOf tM kc ad D A Q .int R.1 R.2) {H : Heap} {locs : List Loc} {ls : Array Slot} (Z : Dy tM kc ad D A s.heap σ H locs) (hl : lv_has ls 4 [(0, .ref (ad 0)), (1, .int x1), (2, .int x2)]) (h : f_X11_clauseOf x1 x2 σ = some R) : W p l e r_X11_clauseOf s m args below meth c H locs 0 0 Q (F0 m 0 ls []) := by
  have hx := C.1.1
  have hb := C.1.2.1
  unfold f_X11_clauseOf at h
  refine lv_bipush (v := 12) hx hb dX11_clauseOf_0 (by decide) ?_
  refine lv_iload_n hx hb dX11_clauseOf_2 rfl (lv_at hl 1 rfl) ?_
  refine lv_imul hx hb dX11_clauseOf_3 ?_
  obtain ⟨v19, ev19, h⟩ := lb h
  refine tn_i ev19 ?_
  refine lv_istore_n (lv' := [(3, .int v19), (0, .ref (ad 0)), (1, .int x1), (2, .int x2)]) hx hb dX11_clauseOf_4 rfl hl (by decide) rfl (fun ls hl => ?_)
  exact w_X11_clauseOf_5 C hR _ _ _ _ _ _ Z (lv_sub hl [1, 2, 3, 0] rfl) h
theorem k_X11_clauseOf {l : Launch} {kc : Nat → ClassId} {ad : Nat → Nat} {D : va_G} {x1 : Int32} {x2 : Int32} {σ : St} {R : Int32 × St} (h : f_X11_clauseOf x1 x2 σ = some R) : KC eM tM kc ad D l yX11_clauseOf (.code yX11_clauseOf cX11_clauseOf 4 (some .int)) r_X11_clauseOf [.ref (ad 0), .int x1, .int x2] (some (.int R.1)) σ R.2 := by
  refine g_enter (by decide) (Nat.le_of_ble_eq_true rfl) ?_
  intro p e s m args below meth c A hA C hr hlocks Z ls hl
  have hl : lv_has ls 4 [(0, .ref (ad 0)), (1, .int x1), (2, .int x2)] := hl
  exact w_X11_clauseOf_0 C (g_RTi C.1.1 C.1.2.1 hr hlocks hA)  Z hl h
def r_X11_telling : Room := { frames := 3, cells := 0, slots := 0, locals := 77 }
set_option maxRecDepth 20000 in
theorem w_X11_telling_89 {p : Program} {l : Launch} {e : Env} {s : State} {m : MethodId} {args : Array Value} {below : List Frame} {meth : Method} {c : Code} {Q : State → Prop} {D : va_G} {kc : Nat → ClassId} {ad : Nat → Nat} {A : Nat → Prop} (C : Cx eM p s m args c cX11_telling 8 RX11 D kc A) {R : Int32 × St} {x1 : Int32} {x2 : Int32} {x3 : Int32} {x4 : Int32} {x5 : Int32} {x6 : Int32} {σ : St} (hR : RTi 0 0 p l e r_X11_telling s m args below meth c cX11_telling tM kc ad D A Q .int R.1 R.2) {k9 : Int32 → Int32 → Int32 → St → Option (Int32 × St)} (hk9 : ∀ (x4 : Int32) (x5 : Int32) (x6 : Int32) (σ : St) (H : Heap) (locs : List Loc) (ls : Array Slot), Dy tM kc ad D A s.heap σ H locs → lv_has ls 8 [(0, .ref (ad 0)), (1, .int x1), (2, .int x2), (3, .int x3), (4, .int x4), (5, .int x5), (6, .int x6)] → k9 x4 x5 x6 σ = some R → W p l e r_X11_telling s m args below meth c H locs 0 0 Q (F0 m 9 ls [])) {H : Heap} {locs : List Loc} {ls : Array Slot} (Z : Dy tM kc ad D A s.heap σ H locs) (hl : lv_has ls 8 [(0, .ref (ad 0)), (1, .int x1), (2, .int x2), (3, .int x3), (4, .int x4), (5, .int x5), (6, .int x6)]) (h : f_X11_telling_89 x1 x2 x3 x4 x5 x6 σ k9 = some R) : W p l e r_X11_telling s m args below meth c H locs 0 0 Q (F0 m 89 ls []) := by
  have hx := C.1.1
  have hb := C.1.2.1
  unfold f_X11_telling_89 at h
  obtain ⟨v18, ev18, h⟩ := lb h
  refine lv_iinc (v := v18) (lv' := [(6, .int v18), (0, .ref (ad 0)), (1, .int x1), (2, .int x2), (3, .int x3), (4, .int x4), (5, .int x5)]) hx hb dX11_telling_89 hl (k := 6) rfl (by rw [ev18]; rfl) (by decide) rfl (fun ls hl => ?_)
  refine lv_goto (tgt := 9) hx hb dX11_telling_92 (by decide) ?_
  exact hk9 _ _ _ _ _ _ _ Z (lv_sub hl [1, 2, 3, 4, 5, 6, 0] rfl) h
set_option maxRecDepth 20000 in
theorem w_X11_telling_64 {p : Program} {l : Launch} {e : Env} {s : State} {m : MethodId} {args : Array Value} {below : List Frame} {meth : Method} {c : Code} {Q : State → Prop} {D : va_G} {kc : Nat → ClassId} {ad : Nat → Nat} {A : Nat → Prop} (C : Cx eM p s m args c cX11_telling 8 RX11 D kc A) {R : Int32 × St} {x1 : Int32} {x2 : Int32} {x3 : Int32} {x4 : Int32} {x5 : Int32} {x6 : Int32} {σ : St} (hR : RTi 0 0 p l e r_X11_telling s m args below meth c cX11_telling tM kc ad D A Q .int R.1 R.2) {k9 : Int32 → Int32 → Int32 → St → Option (Int32 × St)} (hk9 : ∀ (x4 : Int32) (x5 : Int32) (x6 : Int32) (σ : St) (H : Heap) (locs : List Loc) (ls : Array Slot), Dy tM kc ad D A s.heap σ H locs → lv_has ls 8 [(0, .ref (ad 0)), (1, .int x1), (2, .int x2), (3, .int x3), (4, .int x4), (5, .int x5), (6, .int x6)] → k9 x4 x5 x6 σ = some R → W p l e r_X11_telling s m args below meth c H locs 0 0 Q (F0 m 9 ls [])) {H : Heap} {locs : List Loc} {ls : Array Slot} (Z : Dy tM kc ad D A s.heap σ H locs) (hl : lv_has ls 8 [(0, .ref (ad 0)), (1, .int x1), (2, .int x2), (3, .int x3), (4, .int x4), (5, .int x5), (6, .int x6)]) (h : f_X11_telling_64 x1 x2 x3 x4 x5 x6 σ k9 = some R) : W p l e r_X11_telling s m args below meth c H locs 0 0 Q (F0 m 64 ls []) := by
  have hx := C.1.1
  have hb := C.1.2.1
  unfold f_X11_telling_64 at h
  refine lv_aload_n hx hb dX11_telling_64 rfl (lv_at hl 0 rfl) ?_
  refine lv_iload hx hb dX11_telling_65 (lv_at hl 6 rfl) ?_
  refine lv_iload_n hx hb dX11_telling_67 rfl (lv_at hl 2 rfl) ?_
  obtain ⟨u17, hu17, h⟩ := ob h
  refine g_callVi eM_ok C Z (k_X11_clauseOf hu17) lk_X11_465 (by decide) rfl rfl hl (by decide) rfl (Nat.le_of_ble_eq_true rfl) (rest := []) rfl dX11_telling_68 (fun H locs Z => ?_)
  refine lv_istore (lv' := [(7, .int u17.1), (0, .ref (ad 0)), (1, .int x1), (2, .int x2), (3, .int x3), (4, .int x4), (5, .int x5), (6, .int x6)]) hx hb dX11_telling_71 hl (by decide) rfl (fun ls hl => ?_)
  refine lv_iload hx hb dX11_telling_73 (lv_at hl 0 rfl) ?_
  refine lv_if_ge (tgt := 81) hx hb dX11_telling_75 (by decide) (fun c75 => ?_) (fun c75 => ?_)
  · have h := ip h c75
    refine lv_iload hx hb dX11_telling_81 (lv_at hl 7 rfl) ?_
    refine lv_istore (lv' := [(4, .int x6), (7, .int u17.1), (0, .ref (ad 0)), (1, .int x1), (2, .int x2), (3, .int x3), (5, .int x5), (6, .int x6)]) hx hb dX11_telling_83 hl (by decide) rfl (fun ls hl => ?_)
    refine lv_iload hx hb dX11_telling_85 (lv_at hl 1 rfl) ?_
    refine lv_istore (lv' := [(5, .int u17.1), (4, .int x6), (7, .int u17.1), (0, .ref (ad 0)), (1, .int x1), (2, .int x2), (3, .int x3), (6, .int x6)]) hx hb dX11_telling_87 hl (by decide) rfl (fun ls hl => ?_)
    exact w_X11_telling_89 C hR hk9 Z (lv_sub hl [3, 4, 5, 6, 1, 0, 7] rfl) h
  · have h := im h c75
    refine lv_goto (tgt := 89) hx hb dX11_telling_78 (by decide) ?_
    exact w_X11_telling_89 C hR hk9 Z (lv_sub hl [1, 2, 3, 4, 5, 6, 7] rfl) h
set_option maxRecDepth 20000 in
theorem w_X11_telling_9 {p : Program} {l : Launch} {e : Env} {s : State} {m : MethodId} {args : Array Value} {below : List Frame} {meth : Method} {c : Code} {Q : State → Prop} {D : va_G} {kc : Nat → ClassId} {ad : Nat → Nat} {A : Nat → Prop} (C : Cx eM p s m args c cX11_telling 8 RX11 D kc A) {R : Int32 × St} {x1 : Int32} {x2 : Int32} {x3 : Int32} (hR : RTi 0 0 p l e r_X11_telling s m args below meth c cX11_telling tM kc ad D A Q .int R.1 R.2) : ∀ (n : Nat) (x4 : Int32) (x5 : Int32) (x6 : Int32) (σ : St) (H : Heap) (locs : List Loc) (ls : Array Slot), Dy tM kc ad D A s.heap σ H locs → lv_has ls 8 [(0, .ref (ad 0)), (1, .int x1), (2, .int x2), (3, .int x3), (4, .int x4), (5, .int x5), (6, .int x6)] → f_X11_telling_9 x1 x2 x3 n x4 x5 x6 σ = some R → W p l e r_X11_telling s m args below meth c H locs 0 0 Q (F0 m 9 ls []) := by
  have hx := C.1.1
  have hb := C.1.2.1
  intro n
  induction n with
  | zero =>
    intro x4 x5 x6 σ H locs ls Z hl h
    exact absurd (show none = some R from h) (by simp)
  | succ n ih =>
    intro x4 x5 x6 σ H locs ls Z hl h
    rw [f_X11_telling_9] at h
    refine lv_iload hx hb dX11_telling_9 (lv_at hl 6 rfl) ?_
    refine lv_aload_n hx hb dX11_telling_11 rfl (lv_at hl 0 rfl) ?_
    refine rg_X11_350 C Z dX11_telling_12 ?_
    refine lv_icmp_ge (tgt := 95) hx hb dX11_telling_15 (by decide) (fun c15 => ?_) (fun c15 => ?_)
    · have h := ip h c15
      refine lv_iload hx hb dX11_telling_95 (lv_at hl 5 rfl) ?_
      obtain rfl := Option.some.inj h
      exact hR _ _ _ _ _ Z dX11_telling_97 rfl
    · have h := im h c15
      refine lv_aload_n hx hb dX11_telling_18 rfl (lv_at hl 0 rfl) ?_
      refine rg_X11_65 C Z dX11_telling_19 ?_
      refine lv_iload hx hb dX11_telling_22 (lv_at hl 6 rfl) ?_
      obtain ⟨v13, hv13, h⟩ := ob h
      refine g_iald C Z iaM19 hv13 dX11_telling_24 ?_
      refine lv_iload_n hx hb dX11_telling_25 rfl (lv_at hl 1 rfl) ?_
      refine lv_icmp_ne (tgt := 89) hx hb dX11_telling_26 (by decide) (fun c26 => ?_) (fun c26 => ?_)
      · have h := im h c26
        exact w_X11_telling_89 C hR ih Z (lv_sub hl [0, 1, 2, 3, 4, 5, 6] rfl) h
      · have h := ip h c26
        refine lv_aload_n hx hb dX11_telling_29 rfl (lv_at hl 0 rfl) ?_
        refine lv_iload hx hb dX11_telling_30 (lv_at hl 6 rfl) ?_
        refine lv_iload_n hx hb dX11_telling_32 rfl (lv_at hl 3 rfl) ?_
        obtain ⟨v14, hv14, h⟩ := ob h
        refine g_callVi eM_ok C Z (k_X11_isInForce hv14) lk_X11_462 (by decide) rfl rfl hl (by decide) rfl (Nat.le_of_ble_eq_true rfl) (rest := []) rfl dX11_telling_33 (fun H locs Z => ?_)
        refine lv_if_eq (tgt := 89) hx hb dX11_telling_36 (by decide) (fun c36 => ?_) (fun c36 => ?_)
        · have h := ip h c36
          exact w_X11_telling_89 C hR ih Z (lv_sub hl [0, 1, 2, 3, 4, 5, 6] rfl) h
        · have h := im h c36
          refine lv_iload hx hb dX11_telling_39 (lv_at hl 4 rfl) ?_
          refine lv_if_lt (tgt := 64) hx hb dX11_telling_41 (by decide) (fun c41 => ?_) (fun c41 => ?_)
          · have h := ip h c41
            exact w_X11_telling_64 C hR ih Z (lv_sub hl [0, 1, 2, 3, 4, 5, 6] rfl) h
          · have h := im h c41
            refine lv_aload_n hx hb dX11_telling_44 rfl (lv_at hl 0 rfl) ?_
            refine rg_X11_68 C Z dX11_telling_45 ?_
            refine lv_iload hx hb dX11_telling_48 (lv_at hl 6 rfl) ?_
            obtain ⟨v15, hv15, h⟩ := ob h
            refine g_iald C Z iaM20 hv15 dX11_telling_50 ?_
            refine lv_aload_n hx hb dX11_telling_51 rfl (lv_at hl 0 rfl) ?_
            refine rg_X11_68 C Z dX11_telling_52 ?_
            refine lv_iload hx hb dX11_telling_55 (lv_at hl 4 rfl) ?_
            obtain ⟨v16, hv16, h⟩ := ob h
            refine g_iald C Z iaM20 hv16 dX11_telling_57 ?_
            refine lv_icmp_ge (tgt := 64) hx hb dX11_telling_58 (by decide) (fun c58 => ?_) (fun c58 => ?_)
            · have h := ip h c58
              exact w_X11_telling_64 C hR ih Z (lv_sub hl [0, 1, 2, 3, 4, 5, 6] rfl) h
            · have h := im h c58
              refine lv_goto (tgt := 89) hx hb dX11_telling_61 (by decide) ?_
              exact w_X11_telling_89 C hR ih Z (lv_sub hl [0, 1, 2, 3, 4, 5, 6] rfl) h
set_option maxRecDepth 20000 in
theorem w_X11_telling_0 {p : Program} {l : Launch} {e : Env} {s : State} {m : MethodId} {args : Array Value} {below : List Frame} {meth : Method} {c : Code} {Q : State → Prop} {D : va_G} {kc : Nat → ClassId} {ad : Nat → Nat} {A : Nat → Prop} (C : Cx eM p s m args c cX11_telling 8 RX11 D kc A) {R : Int32 × St} {x1 : Int32} {x2 : Int32} {x3 : Int32} {σ : St} (hR : RTi 0 0 p l e r_X11_telling s m args below meth c cX11_telling tM kc ad D A Q .int R.1 R.2) {H : Heap} {locs : List Loc} {ls : Array Slot} (Z : Dy tM kc ad D A s.heap σ H locs) (hl : lv_has ls 8 [(0, .ref (ad 0)), (1, .int x1), (2, .int x2), (3, .int x3)]) (h : f_X11_telling x1 x2 x3 σ = some R) : W p l e r_X11_telling s m args below meth c H locs 0 0 Q (F0 m 0 ls []) := by
  have hx := C.1.1
  have hb := C.1.2.1
  unfold f_X11_telling at h
  refine lv_iconst (v := (-1)) hx hb dX11_telling_0 (by decide) ?_
  refine lv_istore (lv' := [(4, .int (-1)), (0, .ref (ad 0)), (1, .int x1), (2, .int x2), (3, .int x3)]) hx hb dX11_telling_1 hl (by decide) rfl (fun ls hl => ?_)
  refine lv_iconst (v := (-1)) hx hb dX11_telling_3 (by decide) ?_
  refine lv_istore (lv' := [(5, .int (-1)), (4, .int (-1)), (0, .ref (ad 0)), (1, .int x1), (2, .int x2), (3, .int x3)]) hx hb dX11_telling_4 hl (by decide) rfl (fun ls hl => ?_)
  refine lv_iconst (v := 0) hx hb dX11_telling_6 (by decide) ?_
  refine lv_istore (lv' := [(6, .int 0), (5, .int (-1)), (4, .int (-1)), (0, .ref (ad 0)), (1, .int x1), (2, .int x2), (3, .int x3)]) hx hb dX11_telling_7 hl (by decide) rfl (fun ls hl => ?_)
  exact w_X11_telling_9 C hR _ _ _ _ _ _ _ _ Z (lv_sub hl [3, 4, 5, 6, 2, 1, 0] rfl) h
theorem k_X11_telling {l : Launch} {kc : Nat → ClassId} {ad : Nat → Nat} {D : va_G} {x1 : Int32} {x2 : Int32} {x3 : Int32} {σ : St} {R : Int32 × St} (h : f_X11_telling x1 x2 x3 σ = some R) : KC eM tM kc ad D l yX11_telling (.code yX11_telling cX11_telling 8 (some .int)) r_X11_telling [.ref (ad 0), .int x1, .int x2, .int x3] (some (.int R.1)) σ R.2 := by
  refine g_enter (by decide) (Nat.le_of_ble_eq_true rfl) ?_
  intro p e s m args below meth c A hA C hr hlocks Z ls hl
  have hl : lv_has ls 8 [(0, .ref (ad 0)), (1, .int x1), (2, .int x2), (3, .int x3)] := hl
  exact w_X11_telling_0 C (g_RTi C.1.1 C.1.2.1 hr hlocks hA)  Z hl h
def r_X11_reachOf : Room := { frames := 4, cells := 0, slots := 0, locals := 104 }
set_option maxRecDepth 20000 in
theorem w_X11_reachOf_0 {p : Program} {l : Launch} {e : Env} {s : State} {m : MethodId} {args : Array Value} {below : List Frame} {meth : Method} {c : Code} {Q : State → Prop} {D : va_G} {kc : Nat → ClassId} {ad : Nat → Nat} {A : Nat → Prop} (C : Cx eM p s m args c cX11_reachOf 6 RX11 D kc A) {R : Int32 × St} {x1 : Int32} {x2 : Int32} {σ : St} (hR : RTi 0 0 p l e r_X11_reachOf s m args below meth c cX11_reachOf tM kc ad D A Q .int R.1 R.2) {H : Heap} {locs : List Loc} {ls : Array Slot} (Z : Dy tM kc ad D A s.heap σ H locs) (hl : lv_has ls 6 [(0, .ref (ad 0)), (1, .int x1), (2, .int x2)]) (h : f_X11_reachOf x1 x2 σ = some R) : W p l e r_X11_reachOf s m args below meth c H locs 0 0 Q (F0 m 0 ls []) := by
  have hx := C.1.1
  have hb := C.1.2.1
  unfold f_X11_reachOf at h
  refine lv_aload_n hx hb dX11_reachOf_0 rfl (lv_at hl 0 rfl) ?_
  refine lv_iload_n hx hb dX11_reachOf_1 rfl (lv_at hl 2 rfl) ?_
  refine lv_iconst (v := (-1)) hx hb dX11_reachOf_2 (by decide) ?_
  refine lv_iconst (v := (-1)) hx hb dX11_reachOf_3 (by decide) ?_
  refine lv_iconst (v := (-1)) hx hb dX11_reachOf_4 (by decide) ?_
  refine lv_iconst (v := 0) hx hb dX11_reachOf_5 (by decide) ?_
  obtain ⟨σ11, hσ11, h⟩ := ob h
  refine g_callVv eM_ok C Z (k_X11_asks hσ11) lk_X11_293 (by decide) rfl rfl hl (by decide) rfl (Nat.le_of_ble_eq_true rfl) (rest := []) rfl dX11_reachOf_6 (fun H locs Z => ?_)
  refine lv_aload_n hx hb dX11_reachOf_9 rfl (lv_at hl 0 rfl) ?_
  refine lv_iload_n hx hb dX11_reachOf_10 rfl (lv_at hl 1 rfl) ?_
  refine lv_iconst (v := 0) hx hb dX11_reachOf_11 (by decide) ?_
  refine lv_iload_n hx hb dX11_reachOf_12 rfl (lv_at hl 2 rfl) ?_
  obtain ⟨u12, hu12, h⟩ := ob h
  refine g_callVi eM_ok C Z (k_X11_telling hu12) lk_X11_297 (by decide) rfl rfl hl (by decide) rfl (Nat.le_of_ble_eq_true rfl) (rest := []) rfl dX11_reachOf_13 (fun H locs Z => ?_)
  refine lv_istore_n (lv' := [(3, .int u12.1), (0, .ref (ad 0)), (1, .int x1), (2, .int x2)]) hx hb dX11_reachOf_16 rfl hl (by decide) rfl (fun ls hl => ?_)
  refine lv_iload_n hx hb dX11_reachOf_17 rfl (lv_at hl 0 rfl) ?_
  refine lv_if_ge (tgt := 23) hx hb dX11_reachOf_18 (by decide) (fun c18 => ?_) (fun c18 => ?_)
  · have h := ip h c18
    refine lv_aload_n hx hb dX11_reachOf_23 rfl (lv_at hl 1 rfl) ?_
    refine lv_aload_n hx hb dX11_reachOf_24 rfl (lv_at hl 1 rfl) ?_
    refine rg_X11_80 C Z dX11_reachOf_25 ?_
    refine lv_iload_n hx hb dX11_reachOf_28 rfl (lv_at hl 0 rfl) ?_
    obtain ⟨v13, hv13, h⟩ := ob h
    refine g_iald C Z iaM24 hv13 dX11_reachOf_29 ?_
    refine lv_aload_n hx hb dX11_reachOf_30 rfl (lv_at hl 1 rfl) ?_
    refine rg_X11_83 C Z dX11_reachOf_31 ?_
    refine lv_iload_n hx hb dX11_reachOf_34 rfl (lv_at hl 0 rfl) ?_
    obtain ⟨v14, hv14, h⟩ := ob h
    refine g_iald C Z iaM25 hv14 dX11_reachOf_35 ?_
    refine lv_iload_n hx hb dX11_reachOf_36 rfl (lv_at hl 0 rfl) ?_
    refine lv_bipush (v := 12) hx hb dX11_reachOf_37 (by decide) ?_
    refine lv_idiv hx hb dX11_reachOf_39 (by decide) ?_
    obtain ⟨u15, hu15, h⟩ := ob h
    refine g_callVl eM_ok C Z (k_X11_works hu15) lk_X11_300 (by decide) rfl rfl hl (by decide) rfl (Nat.le_of_ble_eq_true rfl) (rest := []) rfl dX11_reachOf_40 (fun H locs Z => ?_)
    refine lv_lstore (lv' := [(4, .long u15.1), (3, .int u12.1), (0, .ref (ad 0)), (1, .int x1), (2, .int x2)]) hx hb dX11_reachOf_43 hl (by decide) rfl (fun ls hl => ?_)
    refine lv_lload hx hb dX11_reachOf_45 (lv_at hl 0 rfl) ?_
    refine lv_lconst (v := 0) hx hb dX11_reachOf_47 (by decide) ?_
    refine g_lge (tgt := 56) hx hb dX11_reachOf_48 dX11_reachOf_49 (by decide) (fun c49 => ?_) (fun c49 => ?_)
    · have h := ip h c49
      refine lv_lload hx hb dX11_reachOf_56 (lv_at hl 0 rfl) ?_
      refine lv_ldc2 (v := 40) hx hb C.1.2.2.2.1 (C.1.2.2.2.2 _ wDL_X11_304) dX11_reachOf_58 ?_
      refine g_lle (tgt := 70) hx hb dX11_reachOf_61 dX11_reachOf_62 (by decide) (fun c62 => ?_) (fun c62 => ?_)
      · have h := ip h c62
        refine lv_lload hx hb dX11_reachOf_70 (lv_at hl 0 rfl) ?_
        refine lv_l2i (v := u15.1.toInt32) hx hb dX11_reachOf_72 rfl ?_
        obtain rfl := Option.some.inj h
        exact hR _ _ _ _ _ Z dX11_reachOf_73 rfl
      · have h := im h c62
        refine lv_bipush (v := 40) hx hb dX11_reachOf_65 (by decide) ?_
        refine lv_goto (tgt := 73) hx hb dX11_reachOf_67 (by decide) ?_
        obtain rfl := Option.some.inj h
        exact hR _ _ _ _ _ Z dX11_reachOf_73 rfl
    · have h := im h c49
      refine lv_iconst (v := 0) hx hb dX11_reachOf_52 (by decide) ?_
      refine lv_goto (tgt := 73) hx hb dX11_reachOf_53 (by decide) ?_
      obtain rfl := Option.some.inj h
      exact hR _ _ _ _ _ Z dX11_reachOf_73 rfl
  · have h := im h c18
    refine lv_iconst (v := 3) hx hb dX11_reachOf_21 (by decide) ?_
    obtain rfl := Option.some.inj h
    exact hR _ _ _ _ _ Z dX11_reachOf_22 rfl
theorem k_X11_reachOf {l : Launch} {kc : Nat → ClassId} {ad : Nat → Nat} {D : va_G} {x1 : Int32} {x2 : Int32} {σ : St} {R : Int32 × St} (h : f_X11_reachOf x1 x2 σ = some R) : KC eM tM kc ad D l yX11_reachOf (.code yX11_reachOf cX11_reachOf 6 (some .int)) r_X11_reachOf [.ref (ad 0), .int x1, .int x2] (some (.int R.1)) σ R.2 := by
  refine g_enter (by decide) (Nat.le_of_ble_eq_true rfl) ?_
  intro p e s m args below meth c A hA C hr hlocks Z ls hl
  have hl : lv_has ls 6 [(0, .ref (ad 0)), (1, .int x1), (2, .int x2)] := hl
  exact w_X11_reachOf_0 C (g_RTi C.1.1 C.1.2.1 hr hlocks hA)  Z hl h
def r_X11_reach : Room := { frames := 5, cells := 0, slots := 0, locals := 129 }
set_option maxRecDepth 20000 in
theorem w_X11_reach_23 {p : Program} {l : Launch} {e : Env} {s : State} {m : MethodId} {args : Array Value} {below : List Frame} {meth : Method} {c : Code} {Q : State → Prop} {D : va_G} {kc : Nat → ClassId} {ad : Nat → Nat} {A : Nat → Prop} (C : Cx eM p s m args c cX11_reach 3 RX11 D kc A) {R : Int32 × St} {σ : St} (hR : RTi 0 0 p l e r_X11_reach s m args below meth c cX11_reach tM kc ad D A Q .int R.1 R.2) {H : Heap} {locs : List Loc} {ls : Array Slot} (Z : Dy tM kc ad D A s.heap σ H locs) (hl : lv_has ls 3 []) (h : f_X11_reach_23 σ = some R) : W p l e r_X11_reach s m args below meth c H locs 0 0 Q (F0 m 23 ls []) := by
  have hx := C.1.1
  have hb := C.1.2.1
  unfold f_X11_reach_23 at h
  refine lv_iconst (v := (-1)) hx hb dX11_reach_23 (by decide) ?_
  obtain rfl := Option.some.inj h
  exact hR _ _ _ _ _ Z dX11_reach_24 rfl
set_option maxRecDepth 20000 in
theorem w_X11_reach_0 {p : Program} {l : Launch} {e : Env} {s : State} {m : MethodId} {args : Array Value} {below : List Frame} {meth : Method} {c : Code} {Q : State → Prop} {D : va_G} {kc : Nat → ClassId} {ad : Nat → Nat} {A : Nat → Prop} (C : Cx eM p s m args c cX11_reach 3 RX11 D kc A) {R : Int32 × St} {x1 : Int32} {x2 : Int32} {σ : St} (hR : RTi 0 0 p l e r_X11_reach s m args below meth c cX11_reach tM kc ad D A Q .int R.1 R.2) {H : Heap} {locs : List Loc} {ls : Array Slot} (Z : Dy tM kc ad D A s.heap σ H locs) (hl : lv_has ls 3 [(0, .ref (ad 0)), (1, .int x1), (2, .int x2)]) (h : f_X11_reach x1 x2 σ = some R) : W p l e r_X11_reach s m args below meth c H locs 0 0 Q (F0 m 0 ls []) := by
  have hx := C.1.1
  have hb := C.1.2.1
  unfold f_X11_reach at h
  refine lv_iload_n hx hb dX11_reach_0 rfl (lv_at hl 1 rfl) ?_
  refine g_callSi eM_ok C Z (k_X11_isSide x1 σ) lk_X11_251 hl (by decide) rfl (Nat.le_of_ble_eq_true rfl) (rest := []) rfl dX11_reach_1 (fun H locs Z => ?_)
  refine lv_if_eq (tgt := 23) hx hb dX11_reach_4 (by decide) (fun c4 => ?_) (fun c4 => ?_)
  · have h := ip h c4
    exact w_X11_reach_23 C hR Z (lv_sub hl [] rfl) h
  · have h := im h c4
    refine lv_iload_n hx hb dX11_reach_7 rfl (lv_at hl 2 rfl) ?_
    refine g_callSi eM_ok C Z (k_X11_isMinute x2 σ) lk_X11_267 hl (by decide) rfl (Nat.le_of_ble_eq_true rfl) (rest := []) rfl dX11_reach_8 (fun H locs Z => ?_)
    refine lv_if_eq (tgt := 23) hx hb dX11_reach_11 (by decide) (fun c11 => ?_) (fun c11 => ?_)
    · have h := ip h c11
      exact w_X11_reach_23 C hR Z (lv_sub hl [] rfl) h
    · have h := im h c11
      refine lv_aload_n hx hb dX11_reach_14 rfl (lv_at hl 0 rfl) ?_
      refine lv_iload_n hx hb dX11_reach_15 rfl (lv_at hl 1 rfl) ?_
      refine lv_iload_n hx hb dX11_reach_16 rfl (lv_at hl 2 rfl) ?_
      obtain ⟨u3, hu3, h⟩ := ob h
      refine g_callVi eM_ok C Z (k_X11_reachOf hu3) lk_X11_306 (by decide) rfl rfl hl (by decide) rfl (Nat.le_of_ble_eq_true rfl) (rest := []) rfl dX11_reach_17 (fun H locs Z => ?_)
      refine lv_goto (tgt := 24) hx hb dX11_reach_20 (by decide) ?_
      obtain rfl := Option.some.inj h
      exact hR _ _ _ _ _ Z dX11_reach_24 rfl
theorem k_X11_reach {l : Launch} {kc : Nat → ClassId} {ad : Nat → Nat} {D : va_G} {x1 : Int32} {x2 : Int32} {σ : St} {R : Int32 × St} (h : f_X11_reach x1 x2 σ = some R) : KC eM tM kc ad D l yX11_reach (.code yX11_reach cX11_reach 3 (some .int)) r_X11_reach [.ref (ad 0), .int x1, .int x2] (some (.int R.1)) σ R.2 := by
  refine g_enter (by decide) (Nat.le_of_ble_eq_true rfl) ?_
  intro p e s m args below meth c A hA C hr hlocks Z ls hl
  have hl : lv_has ls 3 [(0, .ref (ad 0)), (1, .int x1), (2, .int x2)] := hl
  exact w_X11_reach_0 C (g_RTi C.1.1 C.1.2.1 hr hlocks hA)  Z hl h
def r_X11_within : Room := { frames := 5, cells := 0, slots := 0, locals := 129 }
set_option maxRecDepth 20000 in
theorem w_X11_within_0 {p : Program} {l : Launch} {e : Env} {s : State} {m : MethodId} {args : Array Value} {below : List Frame} {meth : Method} {c : Code} {Q : State → Prop} {D : va_G} {kc : Nat → ClassId} {ad : Nat → Nat} {A : Nat → Prop} (C : Cx eM p s m args c cX11_within 6 RX11 D kc A) {R : Int32 × St} {x1 : Int32} {x2 : Int32} {x3 : Int32} {x4 : Int32} {x5 : Int32} {σ : St} (hR : RTi 0 0 p l e r_X11_within s m args below meth c cX11_within tM kc ad D A Q .int R.1 R.2) {H : Heap} {locs : List Loc} {ls : Array Slot} (Z : Dy tM kc ad D A s.heap σ H locs) (hl : lv_has ls 6 [(0, .ref (ad 0)), (1, .int x1), (2, .int x2), (3, .int x3), (4, .int x4), (5, .int x5)]) (h : f_X11_within x1 x2 x3 x4 x5 σ = some R) : W p l e r_X11_within s m args below meth c H locs 0 0 Q (F0 m 0 ls []) := by
  have hx := C.1.1
  have hb := C.1.2.1
  unfold f_X11_within at h
  refine lv_iload_n hx hb dX11_within_0 rfl (lv_at hl 1 rfl) ?_
  refine g_callSi eM_ok C Z (k_X11_isSide x1 σ) lk_X11_251 hl (by decide) rfl (Nat.le_of_ble_eq_true rfl) (rest := []) rfl dX11_within_1 (fun H locs Z => ?_)
  refine lv_if_eq (tgt := 34) hx hb dX11_within_4 (by decide) (fun c4 => ?_) (fun c4 => ?_)
  · have h := ip h c4
    refine lv_iconst (v := (-1)) hx hb dX11_within_34 (by decide) ?_
    obtain rfl := Option.some.inj h
    exact hR _ _ _ _ _ Z dX11_within_35 rfl
  · have h := im h c4
    refine lv_iload_n hx hb dX11_within_7 rfl (lv_at hl 2 rfl) ?_
    refine lv_i2l (v := x2.toInt64) hx hb dX11_within_8 rfl ?_
    refine lv_lconst (v := 0) hx hb dX11_within_9 (by decide) ?_
    refine lv_lconst (v := 1) hx hb dX11_within_10 (by decide) ?_
    refine g_callSi eM_ok C Z (k_X11_in x2.toInt64 0 1 σ) lk_X11_233 hl (by decide) rfl (Nat.le_of_ble_eq_true rfl) (rest := []) rfl dX11_within_11 (fun H locs Z => ?_)
    refine lv_if_eq (tgt := 34) hx hb dX11_within_14 (by decide) (fun c14 => ?_) (fun c14 => ?_)
    · have h := ip h c14
      refine lv_iconst (v := (-1)) hx hb dX11_within_34 (by decide) ?_
      obtain rfl := Option.some.inj h
      exact hR _ _ _ _ _ Z dX11_within_35 rfl
    · have h := im h c14
      refine lv_iload_n hx hb dX11_within_17 rfl (lv_at hl 3 rfl) ?_
      refine lv_iload hx hb dX11_within_18 (lv_at hl 4 rfl) ?_
      refine g_callSi eM_ok C Z (k_X11_isCell x3 x4 σ) lk_X11_242 hl (by decide) rfl (Nat.le_of_ble_eq_true rfl) (rest := []) rfl dX11_within_20 (fun H locs Z => ?_)
      refine lv_if_eq (tgt := 34) hx hb dX11_within_23 (by decide) (fun c23 => ?_) (fun c23 => ?_)
      · have h := ip h c23
        refine lv_iconst (v := (-1)) hx hb dX11_within_34 (by decide) ?_
        obtain rfl := Option.some.inj h
        exact hR _ _ _ _ _ Z dX11_within_35 rfl
      · have h := im h c23
        refine lv_iload hx hb dX11_within_26 (lv_at hl 5 rfl) ?_
        refine g_callSi eM_ok C Z (k_X11_isMinute x5 σ) lk_X11_267 hl (by decide) rfl (Nat.le_of_ble_eq_true rfl) (rest := []) rfl dX11_within_28 (fun H locs Z => ?_)
        refine lv_if_ne (tgt := 36) hx hb dX11_within_31 (by decide) (fun c31 => ?_) (fun c31 => ?_)
        · have h := im h c31
          refine lv_aload_n hx hb dX11_within_36 rfl (lv_at hl 0 rfl) ?_
          refine lv_iload_n hx hb dX11_within_37 rfl (lv_at hl 1 rfl) ?_
          refine lv_iload_n hx hb dX11_within_38 rfl (lv_at hl 2 rfl) ?_
          refine lv_iload_n hx hb dX11_within_39 rfl (lv_at hl 3 rfl) ?_
          refine lv_iload hx hb dX11_within_40 (lv_at hl 4 rfl) ?_
          refine lv_aload_n hx hb dX11_within_42 rfl (lv_at hl 0 rfl) ?_
          refine lv_iload_n hx hb dX11_within_43 rfl (lv_at hl 1 rfl) ?_
          refine lv_iload hx hb dX11_within_44 (lv_at hl 5 rfl) ?_
          obtain ⟨u5, hu5, h⟩ := ob h
          refine g_callVi eM_ok C Z (k_X11_reachOf hu5) lk_X11_306 (by decide) rfl rfl hl (by decide) rfl (Nat.le_of_ble_eq_true rfl) (rest := [.int x4, .int x3, .int x2, .int x1, .ref (ad 0)]) rfl dX11_within_46 (fun H locs Z => ?_)
          obtain ⟨v6, hv6, h⟩ := ob h
          refine g_callVi eM_ok C Z (k_X11_isNear hv6) lk_X11_310 (by decide) rfl rfl hl (by decide) rfl (Nat.le_of_ble_eq_true rfl) (rest := []) rfl dX11_within_49 (fun H locs Z => ?_)
          obtain ⟨v7, ev7, h⟩ := lb h
          have hj : W p l e r_X11_within s m args below meth c H locs 0 0 Q (F0 m 60 ls [.int v7]) := by
            obtain rfl := Option.some.inj h
            exact hR _ _ _ _ _ Z dX11_within_60 rfl
          refine lv_if_eq (tgt := 59) hx hb dX11_within_52 (by decide) (fun c52 => ?_) (fun c52 => ?_)
          · rw [if_pos c52] at ev7
            refine lv_iconst (v := 0) hx hb dX11_within_59 (by decide) ?_
            exact tn_i ev7 hj
          · rw [if_neg c52] at ev7
            refine lv_iconst (v := 1) hx hb dX11_within_55 (by decide) ?_
            refine lv_goto (tgt := 60) hx hb dX11_within_56 (by decide) ?_
            exact tn_i ev7 hj
        · have h := ip h c31
          refine lv_iconst (v := (-1)) hx hb dX11_within_34 (by decide) ?_
          obtain rfl := Option.some.inj h
          exact hR _ _ _ _ _ Z dX11_within_35 rfl
theorem k_X11_within {l : Launch} {kc : Nat → ClassId} {ad : Nat → Nat} {D : va_G} {x1 : Int32} {x2 : Int32} {x3 : Int32} {x4 : Int32} {x5 : Int32} {σ : St} {R : Int32 × St} (h : f_X11_within x1 x2 x3 x4 x5 σ = some R) : KC eM tM kc ad D l yX11_within (.code yX11_within cX11_within 6 (some .int)) r_X11_within [.ref (ad 0), .int x1, .int x2, .int x3, .int x4, .int x5] (some (.int R.1)) σ R.2 := by
  refine g_enter (by decide) (Nat.le_of_ble_eq_true rfl) ?_
  intro p e s m args below meth c A hA C hr hlocks Z ls hl
  have hl : lv_has ls 6 [(0, .ref (ad 0)), (1, .int x1), (2, .int x2), (3, .int x3), (4, .int x4), (5, .int x5)] := hl
  exact w_X11_within_0 C (g_RTi C.1.1 C.1.2.1 hr hlocks hA)  Z hl h
def r_X11_inside : Room := { frames := 5, cells := 0, slots := 0, locals := 129 }
set_option maxRecDepth 20000 in
theorem w_X11_inside_120 {p : Program} {l : Launch} {e : Env} {s : State} {m : MethodId} {args : Array Value} {below : List Frame} {meth : Method} {c : Code} {Q : State → Prop} {D : va_G} {kc : Nat → ClassId} {ad : Nat → Nat} {A : Nat → Prop} (C : Cx eM p s m args c cX11_inside 10 RX11 D kc A) {R : Int64 × St} {x1 : Int32} {x2 : Int32} {x3 : Int32} {x4 : Int32} {x5 : Int32} {x6 : Int64} {x8 : Int32} {σ : St} (hR : RTl 0 0 p l e r_X11_inside s m args below meth c cX11_inside tM kc ad D A Q R.1 R.2) {k50 : Int64 → Int32 → Option (Int64 × St)} (hk50 : ∀ (x6 : Int64) (x8 : Int32) (H : Heap) (locs : List Loc) (ls : Array Slot), Dy tM kc ad D A s.heap σ H locs → lv_has ls 10 [(0, .ref (ad 0)), (1, .int x1), (2, .int x2), (3, .int x3), (4, .int x4), (5, .int x5), (6, .long x6), (8, .int x8)] → k50 x6 x8 = some R → W p l e r_X11_inside s m args below meth c H locs 0 0 Q (F0 m 50 ls [])) {H : Heap} {locs : List Loc} {ls : Array Slot} (Z : Dy tM kc ad D A s.heap σ H locs) (hl : lv_has ls 10 [(0, .ref (ad 0)), (1, .int x1), (2, .int x2), (3, .int x3), (4, .int x4), (5, .int x5), (6, .long x6), (8, .int x8)]) (h : f_X11_inside_120 x1 x2 x3 x4 x5 x6 x8 σ k50 = some R) : W p l e r_X11_inside s m args below meth c H locs 0 0 Q (F0 m 120 ls []) := by
  have hx := C.1.1
  have hb := C.1.2.1
  unfold f_X11_inside_120 at h
  obtain ⟨v18, ev18, h⟩ := lb h
  refine lv_iinc (v := v18) (lv' := [(8, .int v18), (0, .ref (ad 0)), (1, .int x1), (2, .int x2), (3, .int x3), (4, .int x4), (5, .int x5), (6, .long x6)]) hx hb dX11_inside_120 hl (k := 7) rfl (by rw [ev18]; rfl) (by decide) rfl (fun ls hl => ?_)
  refine lv_goto (tgt := 50) hx hb dX11_inside_123 (by decide) ?_
  exact hk50 _ _ _ _ _ Z (lv_sub hl [1, 2, 3, 4, 5, 6, 7, 0] rfl) h
set_option maxRecDepth 20000 in
theorem w_X11_inside_83 {p : Program} {l : Launch} {e : Env} {s : State} {m : MethodId} {args : Array Value} {below : List Frame} {meth : Method} {c : Code} {Q : State → Prop} {D : va_G} {kc : Nat → ClassId} {ad : Nat → Nat} {A : Nat → Prop} (C : Cx eM p s m args c cX11_inside 10 RX11 D kc A) {R : Int64 × St} {x1 : Int32} {x2 : Int32} {x3 : Int32} {x4 : Int32} {x5 : Int32} {x6 : Int64} {x8 : Int32} {y0 : Int32} {σ : St} (hR : RTl 0 0 p l e r_X11_inside s m args below meth c cX11_inside tM kc ad D A Q R.1 R.2) {k50 : Int64 → Int32 → Option (Int64 × St)} (hk50 : ∀ (x6 : Int64) (x8 : Int32) (H : Heap) (locs : List Loc) (ls : Array Slot), Dy tM kc ad D A s.heap σ H locs → lv_has ls 10 [(0, .ref (ad 0)), (1, .int x1), (2, .int x2), (3, .int x3), (4, .int x4), (5, .int x5), (6, .long x6), (8, .int x8)] → k50 x6 x8 = some R → W p l e r_X11_inside s m args below meth c H locs 0 0 Q (F0 m 50 ls [])) {H : Heap} {locs : List Loc} {ls : Array Slot} (Z : Dy tM kc ad D A s.heap σ H locs) (hl : lv_has ls 10 [(0, .ref (ad 0)), (1, .int x1), (2, .int x2), (3, .int x3), (4, .int x4), (5, .int x5), (6, .long x6), (8, .int x8)]) (h : f_X11_inside_83 x1 x2 x3 x4 x5 x6 x8 y0 σ k50 = some R) : W p l e r_X11_inside s m args below meth c H locs 0 0 Q (F0 m 83 ls [.int y0]) := by
  have hx := C.1.1
  have hb := C.1.2.1
  unfold f_X11_inside_83 at h
  refine lv_istore (lv' := [(9, .int y0), (0, .ref (ad 0)), (1, .int x1), (2, .int x2), (3, .int x3), (4, .int x4), (5, .int x5), (6, .long x6), (8, .int x8)]) hx hb dX11_inside_83 hl (by decide) rfl (fun ls hl => ?_)
  refine lv_iload hx hb dX11_inside_85 (lv_at hl 0 rfl) ?_
  refine lv_if_lt (tgt := 120) hx hb dX11_inside_87 (by decide) (fun c87 => ?_) (fun c87 => ?_)
  · have h := ip h c87
    exact w_X11_inside_120 C hR hk50 Z (lv_sub hl [1, 2, 3, 4, 5, 6, 7, 8] rfl) h
  · have h := im h c87
    refine lv_aload_n hx hb dX11_inside_90 rfl (lv_at hl 1 rfl) ?_
    refine lv_iload_n hx hb dX11_inside_91 rfl (lv_at hl 2 rfl) ?_
    refine lv_iload_n hx hb dX11_inside_92 rfl (lv_at hl 3 rfl) ?_
    refine lv_iload hx hb dX11_inside_93 (lv_at hl 0 rfl) ?_
    refine lv_bipush (v := 24) hx hb dX11_inside_95 (by decide) ?_
    refine lv_irem hx hb dX11_inside_97 (by decide) ?_
    refine lv_iload hx hb dX11_inside_98 (lv_at hl 0 rfl) ?_
    refine lv_bipush (v := 24) hx hb dX11_inside_100 (by decide) ?_
    refine lv_idiv hx hb dX11_inside_102 (by decide) ?_
    refine lv_iload hx hb dX11_inside_103 (lv_at hl 6 rfl) ?_
    obtain ⟨v16, hv16, h⟩ := ob h
    refine g_callVi eM_ok C Z (k_X11_isNear hv16) lk_X11_310 (by decide) rfl rfl hl (by decide) rfl (Nat.le_of_ble_eq_true rfl) (rest := []) rfl dX11_inside_105 (fun H locs Z => ?_)
    refine lv_if_eq (tgt := 120) hx hb dX11_inside_108 (by decide) (fun c108 => ?_) (fun c108 => ?_)
    · have h := ip h c108
      exact w_X11_inside_120 C hR hk50 Z (lv_sub hl [1, 2, 3, 4, 5, 6, 7, 8] rfl) h
    · have h := im h c108
      refine lv_lload hx hb dX11_inside_111 (lv_at hl 7 rfl) ?_
      refine lv_lconst (v := 1) hx hb dX11_inside_113 (by decide) ?_
      refine lv_iload hx hb dX11_inside_114 (lv_at hl 8 rfl) ?_
      refine lv_lshl (v := lshl_ 1 x8) hx hb dX11_inside_116 rfl ?_
      refine lv_lor hx hb dX11_inside_117 ?_
      obtain ⟨v17, ev17, h⟩ := lb h
      refine tn_l ev17 ?_
      refine lv_lstore (lv' := [(6, .long v17), (9, .int y0), (0, .ref (ad 0)), (1, .int x1), (2, .int x2), (3, .int x3), (4, .int x4), (5, .int x5), (8, .int x8)]) hx hb dX11_inside_118 hl (by decide) rfl (fun ls hl => ?_)
      exact w_X11_inside_120 C hR hk50 Z (lv_sub hl [2, 3, 4, 5, 6, 7, 0, 8] rfl) h
set_option maxRecDepth 20000 in
theorem w_X11_inside_50 {p : Program} {l : Launch} {e : Env} {s : State} {m : MethodId} {args : Array Value} {below : List Frame} {meth : Method} {c : Code} {Q : State → Prop} {D : va_G} {kc : Nat → ClassId} {ad : Nat → Nat} {A : Nat → Prop} (C : Cx eM p s m args c cX11_inside 10 RX11 D kc A) {R : Int64 × St} {x1 : Int32} {x2 : Int32} {x3 : Int32} {x4 : Int32} {x5 : Int32} {σ : St} (hR : RTl 0 0 p l e r_X11_inside s m args below meth c cX11_inside tM kc ad D A Q R.1 R.2) : ∀ (n : Nat) (x6 : Int64) (x8 : Int32) (H : Heap) (locs : List Loc) (ls : Array Slot), Dy tM kc ad D A s.heap σ H locs → lv_has ls 10 [(0, .ref (ad 0)), (1, .int x1), (2, .int x2), (3, .int x3), (4, .int x4), (5, .int x5), (6, .long x6), (8, .int x8)] → f_X11_inside_50 x1 x2 x3 x4 x5 σ n x6 x8 = some R → W p l e r_X11_inside s m args below meth c H locs 0 0 Q (F0 m 50 ls []) := by
  have hx := C.1.1
  have hb := C.1.2.1
  intro n
  induction n with
  | zero =>
    intro x6 x8 H locs ls Z hl h
    exact absurd (show none = some R from h) (by simp)
  | succ n ih =>
    intro x6 x8 H locs ls Z hl h
    rw [f_X11_inside_50] at h
    refine lv_iload hx hb dX11_inside_50 (lv_at hl 7 rfl) ?_
    refine lv_aload_n hx hb dX11_inside_52 rfl (lv_at hl 0 rfl) ?_
    refine rg_X11_248 C Z dX11_inside_53 ?_
    refine lv_icmp_ge (tgt := 126) hx hb dX11_inside_56 (by decide) (fun c56 => ?_) (fun c56 => ?_)
    · have h := ip h c56
      refine lv_lload hx hb dX11_inside_126 (lv_at hl 6 rfl) ?_
      obtain rfl := Option.some.inj h
      exact hR _ _ _ _ Z dX11_inside_128
    · have h := im h c56
      refine lv_aload_n hx hb dX11_inside_59 rfl (lv_at hl 0 rfl) ?_
      refine rg_X11_13 C Z dX11_inside_60 ?_
      refine lv_iload hx hb dX11_inside_63 (lv_at hl 7 rfl) ?_
      obtain ⟨v14, hv14, h⟩ := ob h
      refine g_iald C Z iaM2 hv14 dX11_inside_65 ?_
      refine lv_iload_n hx hb dX11_inside_66 rfl (lv_at hl 1 rfl) ?_
      refine lv_icmp_ne (tgt := 74) hx hb dX11_inside_67 (by decide) (fun c67 => ?_) (fun c67 => ?_)
      · have h := im h c67
        refine lv_aload_n hx hb dX11_inside_74 rfl (lv_at hl 0 rfl) ?_
        refine lv_iload hx hb dX11_inside_75 (lv_at hl 7 rfl) ?_
        refine lv_iload_n hx hb dX11_inside_77 rfl (lv_at hl 3 rfl) ?_
        refine lv_iload hx hb dX11_inside_78 (lv_at hl 4 rfl) ?_
        obtain ⟨v15, hv15, h⟩ := ob h
        refine g_callVi eM_ok C Z (k_X11_whereIs hv15) lk_X11_270 (by decide) rfl rfl hl (by decide) rfl (Nat.le_of_ble_eq_true rfl) (rest := []) rfl dX11_inside_80 (fun H locs Z => ?_)
        exact w_X11_inside_83 C hR ih Z (lv_sub hl [0, 1, 2, 3, 4, 5, 6, 7] rfl) h
      · have h := ip h c67
        refine lv_iconst (v := (-1)) hx hb dX11_inside_70 (by decide) ?_
        refine lv_goto (tgt := 83) hx hb dX11_inside_71 (by decide) ?_
        exact w_X11_inside_83 C hR ih Z (lv_sub hl [0, 1, 2, 3, 4, 5, 6, 7] rfl) h
set_option maxRecDepth 20000 in
theorem w_X11_inside_0 {p : Program} {l : Launch} {e : Env} {s : State} {m : MethodId} {args : Array Value} {below : List Frame} {meth : Method} {c : Code} {Q : State → Prop} {D : va_G} {kc : Nat → ClassId} {ad : Nat → Nat} {A : Nat → Prop} (C : Cx eM p s m args c cX11_inside 10 RX11 D kc A) {R : Int64 × St} {x1 : Int32} {x2 : Int32} {x3 : Int32} {x4 : Int32} {σ : St} (hR : RTl 0 0 p l e r_X11_inside s m args below meth c cX11_inside tM kc ad D A Q R.1 R.2) {H : Heap} {locs : List Loc} {ls : Array Slot} (Z : Dy tM kc ad D A s.heap σ H locs) (hl : lv_has ls 10 [(0, .ref (ad 0)), (1, .int x1), (2, .int x2), (3, .int x3), (4, .int x4)]) (h : f_X11_inside x1 x2 x3 x4 σ = some R) : W p l e r_X11_inside s m args below meth c H locs 0 0 Q (F0 m 0 ls []) := by
  have hx := C.1.1
  have hb := C.1.2.1
  unfold f_X11_inside at h
  refine lv_iload_n hx hb dX11_inside_0 rfl (lv_at hl 1 rfl) ?_
  refine g_callSi eM_ok C Z (k_X11_isSide x1 σ) lk_X11_251 hl (by decide) rfl (Nat.le_of_ble_eq_true rfl) (rest := []) rfl dX11_inside_1 (fun H locs Z => ?_)
  refine lv_if_eq (tgt := 32) hx hb dX11_inside_4 (by decide) (fun c4 => ?_) (fun c4 => ?_)
  · have h := ip h c4
    refine lv_ldc2 (v := (-1)) hx hb C.1.2.2.2.1 (C.1.2.2.2.2 _ wDL_X11_314) dX11_inside_32 ?_
    obtain rfl := Option.some.inj h
    exact hR _ _ _ _ Z dX11_inside_35
  · have h := im h c4
    refine lv_iload_n hx hb dX11_inside_7 rfl (lv_at hl 2 rfl) ?_
    refine lv_i2l (v := x2.toInt64) hx hb dX11_inside_8 rfl ?_
    refine lv_lconst (v := 0) hx hb dX11_inside_9 (by decide) ?_
    refine lv_lconst (v := 1) hx hb dX11_inside_10 (by decide) ?_
    refine g_callSi eM_ok C Z (k_X11_in x2.toInt64 0 1 σ) lk_X11_233 hl (by decide) rfl (Nat.le_of_ble_eq_true rfl) (rest := []) rfl dX11_inside_11 (fun H locs Z => ?_)
    refine lv_if_eq (tgt := 32) hx hb dX11_inside_14 (by decide) (fun c14 => ?_) (fun c14 => ?_)
    · have h := ip h c14
      refine lv_ldc2 (v := (-1)) hx hb C.1.2.2.2.1 (C.1.2.2.2.2 _ wDL_X11_314) dX11_inside_32 ?_
      obtain rfl := Option.some.inj h
      exact hR _ _ _ _ Z dX11_inside_35
    · have h := im h c14
      refine lv_iload_n hx hb dX11_inside_17 rfl (lv_at hl 3 rfl) ?_
      refine g_callSi eM_ok C Z (k_X11_isMinute x3 σ) lk_X11_267 hl (by decide) rfl (Nat.le_of_ble_eq_true rfl) (rest := []) rfl dX11_inside_18 (fun H locs Z => ?_)
      refine lv_if_eq (tgt := 32) hx hb dX11_inside_21 (by decide) (fun c21 => ?_) (fun c21 => ?_)
      · have h := ip h c21
        refine lv_ldc2 (v := (-1)) hx hb C.1.2.2.2.1 (C.1.2.2.2.2 _ wDL_X11_314) dX11_inside_32 ?_
        obtain rfl := Option.some.inj h
        exact hR _ _ _ _ Z dX11_inside_35
      · have h := im h c21
        refine lv_iload hx hb dX11_inside_24 (lv_at hl 4 rfl) ?_
        refine g_callSi eM_ok C Z (k_X11_isMinute x4 σ) lk_X11_267 hl (by decide) rfl (Nat.le_of_ble_eq_true rfl) (rest := []) rfl dX11_inside_26 (fun H locs Z => ?_)
        refine lv_if_ne (tgt := 36) hx hb dX11_inside_29 (by decide) (fun c29 => ?_) (fun c29 => ?_)
        · have h := im h c29
          refine lv_aload_n hx hb dX11_inside_36 rfl (lv_at hl 0 rfl) ?_
          refine lv_iload_n hx hb dX11_inside_37 rfl (lv_at hl 1 rfl) ?_
          refine lv_iload_n hx hb dX11_inside_38 rfl (lv_at hl 3 rfl) ?_
          obtain ⟨u13, hu13, h⟩ := ob h
          refine g_callVi eM_ok C Z (k_X11_reachOf hu13) lk_X11_306 (by decide) rfl rfl hl (by decide) rfl (Nat.le_of_ble_eq_true rfl) (rest := []) rfl dX11_inside_39 (fun H locs Z => ?_)
          refine lv_istore (lv' := [(5, .int u13.1), (0, .ref (ad 0)), (1, .int x1), (2, .int x2), (3, .int x3), (4, .int x4)]) hx hb dX11_inside_42 hl (by decide) rfl (fun ls hl => ?_)
          refine lv_lconst (v := 0) hx hb dX11_inside_44 (by decide) ?_
          refine lv_lstore (lv' := [(6, .long 0), (5, .int u13.1), (0, .ref (ad 0)), (1, .int x1), (2, .int x2), (3, .int x3), (4, .int x4)]) hx hb dX11_inside_45 hl (by decide) rfl (fun ls hl => ?_)
          refine lv_iconst (v := 0) hx hb dX11_inside_47 (by decide) ?_
          refine lv_istore (lv' := [(8, .int 0), (6, .long 0), (5, .int u13.1), (0, .ref (ad 0)), (1, .int x1), (2, .int x2), (3, .int x3), (4, .int x4)]) hx hb dX11_inside_48 hl (by decide) rfl (fun ls hl => ?_)
          exact w_X11_inside_50 C hR _ _ _ _ _ _ Z (lv_sub hl [3, 4, 5, 6, 7, 2, 1, 0] rfl) h
        · have h := ip h c29
          refine lv_ldc2 (v := (-1)) hx hb C.1.2.2.2.1 (C.1.2.2.2.2 _ wDL_X11_314) dX11_inside_32 ?_
          obtain rfl := Option.some.inj h
          exact hR _ _ _ _ Z dX11_inside_35
theorem k_X11_inside {l : Launch} {kc : Nat → ClassId} {ad : Nat → Nat} {D : va_G} {x1 : Int32} {x2 : Int32} {x3 : Int32} {x4 : Int32} {σ : St} {R : Int64 × St} (h : f_X11_inside x1 x2 x3 x4 σ = some R) : KC eM tM kc ad D l yX11_inside (.code yX11_inside cX11_inside 10 (some .long)) r_X11_inside [.ref (ad 0), .int x1, .int x2, .int x3, .int x4] (some (.long R.1)) σ R.2 := by
  refine g_enter (by decide) (Nat.le_of_ble_eq_true rfl) ?_
  intro p e s m args below meth c A hA C hr hlocks Z ls hl
  have hl : lv_has ls 10 [(0, .ref (ad 0)), (1, .int x1), (2, .int x2), (3, .int x3), (4, .int x4)] := hl
  exact w_X11_inside_0 C (g_RTl C.1.1 C.1.2.1 hr hlocks hA)  Z hl h
def r_X11_beside : Room := { frames := 1, cells := 0, slots := 0, locals := 28 }
set_option maxRecDepth 20000 in
theorem w_X11_beside_95 {p : Program} {l : Launch} {e : Env} {s : State} {m : MethodId} {args : Array Value} {below : List Frame} {meth : Method} {c : Code} {Q : State → Prop} {D : va_G} {kc : Nat → ClassId} {ad : Nat → Nat} {A : Nat → Prop} (C : Cx eM p s m args c cX11_beside 5 RX11 D kc A) {R : Int32} {x1 : Int32} {x2 : Int32} {x3 : Int32} {x4 : Int32} {σ : St} (hR : RTi 0 0 p l e r_X11_beside s m args below meth c cX11_beside tM kc ad D A Q .int R σ) {k26 : Int32 → Int32 → Option (Int32)} (hk26 : ∀ (x3 : Int32) (x4 : Int32) (H : Heap) (locs : List Loc) (ls : Array Slot), Dy tM kc ad D A s.heap σ H locs → lv_has ls 5 [(0, .ref (ad 0)), (1, .int x1), (2, .int x2), (3, .int x3), (4, .int x4)] → k26 x3 x4 = some R → W p l e r_X11_beside s m args below meth c H locs 0 0 Q (F0 m 26 ls [])) {H : Heap} {locs : List Loc} {ls : Array Slot} (Z : Dy tM kc ad D A s.heap σ H locs) (hl : lv_has ls 5 [(0, .ref (ad 0)), (1, .int x1), (2, .int x2), (3, .int x3), (4, .int x4)]) (h : f_X11_beside_95 x1 x2 x3 x4 σ k26 = some R) : W p l e r_X11_beside s m args below meth c H locs 0 0 Q (F0 m 95 ls []) := by
  have hx := C.1.1
  have hb := C.1.2.1
  unfold f_X11_beside_95 at h
  obtain ⟨v27, ev27, h⟩ := lb h
  refine lv_iinc (v := v27) (lv' := [(4, .int v27), (0, .ref (ad 0)), (1, .int x1), (2, .int x2), (3, .int x3)]) hx hb dX11_beside_95 hl (k := 4) rfl (by rw [ev27]; rfl) (by decide) rfl (fun ls hl => ?_)
  refine lv_goto (tgt := 26) hx hb dX11_beside_98 (by decide) ?_
  exact hk26 _ _ _ _ _ Z (lv_sub hl [1, 2, 3, 4, 0] rfl) h
set_option maxRecDepth 20000 in
theorem w_X11_beside_26 {p : Program} {l : Launch} {e : Env} {s : State} {m : MethodId} {args : Array Value} {below : List Frame} {meth : Method} {c : Code} {Q : State → Prop} {D : va_G} {kc : Nat → ClassId} {ad : Nat → Nat} {A : Nat → Prop} (C : Cx eM p s m args c cX11_beside 5 RX11 D kc A) {R : Int32} {x1 : Int32} {x2 : Int32} {σ : St} (hR : RTi 0 0 p l e r_X11_beside s m args below meth c cX11_beside tM kc ad D A Q .int R σ) : ∀ (n : Nat) (x3 : Int32) (x4 : Int32) (H : Heap) (locs : List Loc) (ls : Array Slot), Dy tM kc ad D A s.heap σ H locs → lv_has ls 5 [(0, .ref (ad 0)), (1, .int x1), (2, .int x2), (3, .int x3), (4, .int x4)] → f_X11_beside_26 x1 x2 σ n x3 x4 = some R → W p l e r_X11_beside s m args below meth c H locs 0 0 Q (F0 m 26 ls []) := by
  have hx := C.1.1
  have hb := C.1.2.1
  intro n
  induction n with
  | zero =>
    intro x3 x4 H locs ls Z hl h
    exact absurd (show none = some R from h) (by simp)
  | succ n ih =>
    intro x3 x4 H locs ls Z hl h
    rw [f_X11_beside_26] at h
    refine lv_iload hx hb dX11_beside_26 (lv_at hl 4 rfl) ?_
    refine lv_aload_n hx hb dX11_beside_28 rfl (lv_at hl 0 rfl) ?_
    refine rg_X11_261 C Z dX11_beside_29 ?_
    refine lv_icmp_ge (tgt := 101) hx hb dX11_beside_32 (by decide) (fun c32 => ?_) (fun c32 => ?_)
    · have h := ip h c32
      refine lv_iload_n hx hb dX11_beside_101 rfl (lv_at hl 3 rfl) ?_
      obtain rfl := Option.some.inj h
      exact hR _ _ _ _ _ Z dX11_beside_102 rfl
    · have h := im h c32
      refine lv_aload_n hx hb dX11_beside_35 rfl (lv_at hl 0 rfl) ?_
      refine rg_X11_25 C Z dX11_beside_36 ?_
      refine lv_iload hx hb dX11_beside_39 (lv_at hl 4 rfl) ?_
      obtain ⟨v19, hv19, h⟩ := ob h
      refine g_iald C Z iaM6 hv19 dX11_beside_41 ?_
      refine lv_aload_n hx hb dX11_beside_42 rfl (lv_at hl 0 rfl) ?_
      refine rg_X11_28 C Z dX11_beside_43 ?_
      refine lv_iload hx hb dX11_beside_46 (lv_at hl 4 rfl) ?_
      obtain ⟨v20, hv20, h⟩ := ob h
      refine g_iald C Z iaM7 hv20 dX11_beside_48 ?_
      refine lv_icmp_ne (tgt := 95) hx hb dX11_beside_49 (by decide) (fun c49 => ?_) (fun c49 => ?_)
      · have h := im h c49
        exact w_X11_beside_95 C hR ih Z (lv_sub hl [0, 1, 2, 3, 4] rfl) h
      · have h := ip h c49
        refine lv_aload_n hx hb dX11_beside_52 rfl (lv_at hl 0 rfl) ?_
        refine rg_X11_13 C Z dX11_beside_53 ?_
        refine lv_aload_n hx hb dX11_beside_56 rfl (lv_at hl 0 rfl) ?_
        refine rg_X11_28 C Z dX11_beside_57 ?_
        refine lv_iload hx hb dX11_beside_60 (lv_at hl 4 rfl) ?_
        obtain ⟨v21, hv21, h⟩ := ob h
        refine g_iald C Z iaM7 hv21 dX11_beside_62 ?_
        obtain ⟨v22, hv22, h⟩ := ob h
        refine g_iald C Z iaM2 hv22 dX11_beside_63 ?_
        refine lv_iload_n hx hb dX11_beside_64 rfl (lv_at hl 1 rfl) ?_
        refine lv_icmp_eq (tgt := 95) hx hb dX11_beside_65 (by decide) (fun c65 => ?_) (fun c65 => ?_)
        · have h := ip h c65
          exact w_X11_beside_95 C hR ih Z (lv_sub hl [0, 1, 2, 3, 4] rfl) h
        · have h := im h c65
          refine lv_aload_n hx hb dX11_beside_68 rfl (lv_at hl 0 rfl) ?_
          refine lv_iload_n hx hb dX11_beside_69 rfl (lv_at hl 1 rfl) ?_
          refine lv_iconst (v := 0) hx hb dX11_beside_70 (by decide) ?_
          refine lv_aload_n hx hb dX11_beside_71 rfl (lv_at hl 0 rfl) ?_
          refine rg_X11_34 C Z dX11_beside_72 ?_
          refine lv_iload hx hb dX11_beside_75 (lv_at hl 4 rfl) ?_
          obtain ⟨v23, hv23, h⟩ := ob h
          refine g_iald C Z iaM9 hv23 dX11_beside_77 ?_
          refine lv_aload_n hx hb dX11_beside_78 rfl (lv_at hl 0 rfl) ?_
          refine rg_X11_37 C Z dX11_beside_79 ?_
          refine lv_iload hx hb dX11_beside_82 (lv_at hl 4 rfl) ?_
          obtain ⟨v24, hv24, h⟩ := ob h
          refine g_iald C Z iaM10 hv24 dX11_beside_84 ?_
          refine lv_iload_n hx hb dX11_beside_85 rfl (lv_at hl 2 rfl) ?_
          obtain ⟨v25, hv25, h⟩ := ob h
          refine g_callVi eM_ok C Z (k_X11_isNear hv25) lk_X11_310 (by decide) rfl rfl hl (by decide) rfl (Nat.le_of_ble_eq_true rfl) (rest := []) rfl dX11_beside_86 (fun H locs Z => ?_)
          refine lv_if_eq (tgt := 95) hx hb dX11_beside_89 (by decide) (fun c89 => ?_) (fun c89 => ?_)
          · have h := ip h c89
            exact w_X11_beside_95 C hR ih Z (lv_sub hl [0, 1, 2, 3, 4] rfl) h
          · have h := im h c89
            obtain ⟨v26, ev26, h⟩ := lb h
            refine lv_iinc (v := v26) (lv' := [(3, .int v26), (0, .ref (ad 0)), (1, .int x1), (2, .int x2), (4, .int x4)]) hx hb dX11_beside_92 hl (k := 3) rfl (by rw [ev26]; rfl) (by decide) rfl (fun ls hl => ?_)
            exact w_X11_beside_95 C hR ih Z (lv_sub hl [1, 2, 3, 0, 4] rfl) h
set_option maxRecDepth 20000 in
theorem w_X11_beside_0 {p : Program} {l : Launch} {e : Env} {s : State} {m : MethodId} {args : Array Value} {below : List Frame} {meth : Method} {c : Code} {Q : State → Prop} {D : va_G} {kc : Nat → ClassId} {ad : Nat → Nat} {A : Nat → Prop} (C : Cx eM p s m args c cX11_beside 5 RX11 D kc A) {R : Int32} {x1 : Int32} {x2 : Int32} {σ : St} (hR : RTi 0 0 p l e r_X11_beside s m args below meth c cX11_beside tM kc ad D A Q .int R σ) {H : Heap} {locs : List Loc} {ls : Array Slot} (Z : Dy tM kc ad D A s.heap σ H locs) (hl : lv_has ls 5 [(0, .ref (ad 0)), (1, .int x1), (2, .int x2)]) (h : f_X11_beside x1 x2 σ = some R) : W p l e r_X11_beside s m args below meth c H locs 0 0 Q (F0 m 0 ls []) := by
  have hx := C.1.1
  have hb := C.1.2.1
  unfold f_X11_beside at h
  refine lv_iload_n hx hb dX11_beside_0 rfl (lv_at hl 1 rfl) ?_
  refine g_callSi eM_ok C Z (k_X11_isSide x1 σ) lk_X11_251 hl (by decide) rfl (Nat.le_of_ble_eq_true rfl) (rest := []) rfl dX11_beside_1 (fun H locs Z => ?_)
  refine lv_if_eq (tgt := 19) hx hb dX11_beside_4 (by decide) (fun c4 => ?_) (fun c4 => ?_)
  · have h := ip h c4
    refine lv_iconst (v := (-1)) hx hb dX11_beside_19 (by decide) ?_
    obtain rfl := Option.some.inj h
    exact hR _ _ _ _ _ Z dX11_beside_20 rfl
  · have h := im h c4
    refine lv_iload_n hx hb dX11_beside_7 rfl (lv_at hl 2 rfl) ?_
    refine lv_i2l (v := x2.toInt64) hx hb dX11_beside_8 rfl ?_
    refine lv_lconst (v := 0) hx hb dX11_beside_9 (by decide) ?_
    refine lv_ldc2 (v := 40) hx hb C.1.2.2.2.1 (C.1.2.2.2.2 _ wDL_X11_304) dX11_beside_10 ?_
    refine g_callSi eM_ok C Z (k_X11_in x2.toInt64 0 40 σ) lk_X11_233 hl (by decide) rfl (Nat.le_of_ble_eq_true rfl) (rest := []) rfl dX11_beside_13 (fun H locs Z => ?_)
    refine lv_if_ne (tgt := 21) hx hb dX11_beside_16 (by decide) (fun c16 => ?_) (fun c16 => ?_)
    · have h := im h c16
      refine lv_iconst (v := 0) hx hb dX11_beside_21 (by decide) ?_
      refine lv_istore_n (lv' := [(3, .int 0), (0, .ref (ad 0)), (1, .int x1), (2, .int x2)]) hx hb dX11_beside_22 rfl hl (by decide) rfl (fun ls hl => ?_)
      refine lv_iconst (v := 0) hx hb dX11_beside_23 (by decide) ?_
      refine lv_istore (lv' := [(4, .int 0), (3, .int 0), (0, .ref (ad 0)), (1, .int x1), (2, .int x2)]) hx hb dX11_beside_24 hl (by decide) rfl (fun ls hl => ?_)
      exact w_X11_beside_26 C hR _ _ _ _ _ _ Z (lv_sub hl [2, 3, 4, 1, 0] rfl) h
    · have h := ip h c16
      refine lv_iconst (v := (-1)) hx hb dX11_beside_19 (by decide) ?_
      obtain rfl := Option.some.inj h
      exact hR _ _ _ _ _ Z dX11_beside_20 rfl
theorem k_X11_beside {l : Launch} {kc : Nat → ClassId} {ad : Nat → Nat} {D : va_G} {x1 : Int32} {x2 : Int32} {σ : St} {R : Int32} (h : f_X11_beside x1 x2 σ = some R) : KC eM tM kc ad D l yX11_beside (.code yX11_beside cX11_beside 5 (some .int)) r_X11_beside [.ref (ad 0), .int x1, .int x2] (some (.int R)) σ σ := by
  refine g_enter (by decide) (Nat.le_of_ble_eq_true rfl) ?_
  intro p e s m args below meth c A hA C hr hlocks Z ls hl
  have hl : lv_has ls 5 [(0, .ref (ad 0)), (1, .int x1), (2, .int x2)] := hl
  exact w_X11_beside_0 C (g_RTi C.1.1 C.1.2.1 hr hlocks hA)  Z hl h
def r_X11_four : Room := { frames := 0, cells := 0, slots := 0, locals := 0 }
set_option maxRecDepth 20000 in
theorem w_X11_four_3 {p : Program} {l : Launch} {e : Env} {s : State} {m : MethodId} {args : Array Value} {below : List Frame} {meth : Method} {c : Code} {Q : State → Prop} {D : va_G} {kc : Nat → ClassId} {ad : Nat → Nat} {A : Nat → Prop} (C : Cx eM p s m args c cX11_four 3 RX11 D kc A) {R : St} {x1 : Int32} (hR : RTv 0 0 p l e r_X11_four s m args below meth c cX11_four tM kc ad D A Q R) : ∀ (n : Nat) (x2 : Int32) (σ : St) (H : Heap) (locs : List Loc) (ls : Array Slot), Dy tM kc ad D A s.heap σ H locs → lv_has ls 3 [(0, .ref (ad 0)), (1, .int x1), (2, .int x2)] → f_X11_four_3 x1 n x2 σ = some R → W p l e r_X11_four s m args below meth c H locs 0 0 Q (F0 m 3 ls []) := by
  have hx := C.1.1
  have hb := C.1.2.1
  intro n
  induction n with
  | zero =>
    intro x2 σ H locs ls Z hl h
    exact absurd (show none = some R from h) (by simp)
  | succ n ih =>
    intro x2 σ H locs ls Z hl h
    rw [f_X11_four_3] at h
    refine lv_iload_n hx hb dX11_four_3 rfl (lv_at hl 2 rfl) ?_
    refine lv_if_lt (tgt := 36) hx hb dX11_four_4 (by decide) (fun c4 => ?_) (fun c4 => ?_)
    · have h := ip h c4
      obtain rfl := Option.some.inj h
      exact hR _ _ _ _ Z dX11_four_36
    · have h := im h c4
      refine lv_aload_n hx hb dX11_four_7 rfl (lv_at hl 0 rfl) ?_
      refine rg_X11_61 C Z dX11_four_8 ?_
      refine lv_aload_n hx hb dX11_four_11 rfl (lv_at hl 0 rfl) ?_
      refine rg_X11_316 C Z dX11_four_12 ?_
      refine lv_iload_n hx hb dX11_four_15 rfl (lv_at hl 1 rfl) ?_
      refine lv_iload_n hx hb dX11_four_16 rfl (lv_at hl 2 rfl) ?_
      refine lv_ishr hx hb dX11_four_17 ?_
      refine lv_i2b (v := (x1 >>> (x2 &&& 31)).toInt8.toInt32) hx hb dX11_four_18 rfl ?_
      obtain ⟨σ7, hσ7, h⟩ := ob h
      refine g_bast C Z iaM18 hσ7 dX11_four_19 (fun H locs Z => ?_)
      refine lv_aload_n hx hb dX11_four_20 rfl (lv_at hl 0 rfl) ?_
      refine lv_dup hx hb dX11_four_21 rfl ?_
      refine rg_X11_316 C Z dX11_four_22 ?_
      refine lv_iconst (v := 1) hx hb dX11_four_25 (by decide) ?_
      refine lv_iadd hx hb dX11_four_26 ?_
      obtain ⟨σ8, eσ8, h⟩ := lb h
      refine rp_X11_316 C Z eσ8 dX11_four_27 (fun H locs Z => ?_)
      obtain ⟨v9, ev9, h⟩ := lb h
      refine lv_iinc (v := v9) (lv' := [(2, .int v9), (0, .ref (ad 0)), (1, .int x1)]) hx hb dX11_four_30 hl (k := 2) rfl (by rw [ev9]; rfl) (by decide) rfl (fun ls hl => ?_)
      refine lv_goto (tgt := 3) hx hb dX11_four_33 (by decide) ?_
      exact ih _ _ _ _ _ Z (lv_sub hl [1, 2, 0] rfl) h
set_option maxRecDepth 20000 in
theorem w_X11_four_0 {p : Program} {l : Launch} {e : Env} {s : State} {m : MethodId} {args : Array Value} {below : List Frame} {meth : Method} {c : Code} {Q : State → Prop} {D : va_G} {kc : Nat → ClassId} {ad : Nat → Nat} {A : Nat → Prop} (C : Cx eM p s m args c cX11_four 3 RX11 D kc A) {R : St} {x1 : Int32} {σ : St} (hR : RTv 0 0 p l e r_X11_four s m args below meth c cX11_four tM kc ad D A Q R) {H : Heap} {locs : List Loc} {ls : Array Slot} (Z : Dy tM kc ad D A s.heap σ H locs) (hl : lv_has ls 3 [(0, .ref (ad 0)), (1, .int x1)]) (h : f_X11_four x1 σ = some R) : W p l e r_X11_four s m args below meth c H locs 0 0 Q (F0 m 0 ls []) := by
  have hx := C.1.1
  have hb := C.1.2.1
  unfold f_X11_four at h
  refine lv_bipush (v := 24) hx hb dX11_four_0 (by decide) ?_
  refine lv_istore_n (lv' := [(2, .int 24), (0, .ref (ad 0)), (1, .int x1)]) hx hb dX11_four_2 rfl hl (by decide) rfl (fun ls hl => ?_)
  exact w_X11_four_3 C hR _ _ _ _ _ _ Z (lv_sub hl [1, 2, 0] rfl) h
theorem k_X11_four {l : Launch} {kc : Nat → ClassId} {ad : Nat → Nat} {D : va_G} {x1 : Int32} {σ : St} {R : St} (h : f_X11_four x1 σ = some R) : KC eM tM kc ad D l yX11_four (.code yX11_four cX11_four 3 none) r_X11_four [.ref (ad 0), .int x1] none σ R := by
  refine g_enter (by decide) (Nat.le_of_ble_eq_true rfl) ?_
  intro p e s m args below meth c A hA C hr hlocks Z ls hl
  have hl : lv_has ls 3 [(0, .ref (ad 0)), (1, .int x1)] := hl
  exact w_X11_four_0 C (g_RTv C.1.1 C.1.2.1 hr hlocks hA)  Z hl h
def r_X11_feed : Room := { frames := 1, cells := 0, slots := 0, locals := 22 }
set_option maxRecDepth 20000 in
theorem w_X11_feed_0 {p : Program} {l : Launch} {e : Env} {s : State} {m : MethodId} {args : Array Value} {below : List Frame} {meth : Method} {c : Code} {Q : State → Prop} {D : va_G} {kc : Nat → ClassId} {ad : Nat → Nat} {A : Nat → Prop} (C : Cx eM p s m args c cX11_feed 6 RX11 D kc A) {R : Int32 × St} {x1 : Int32} {x2 : Int32} {x3 : Int32} {x4 : Int32} {x5 : Int32} {σ : St} (hR : RTi 0 0 p l e r_X11_feed s m args below meth c cX11_feed tM kc ad D A Q .int R.1 R.2) {H : Heap} {locs : List Loc} {ls : Array Slot} (Z : Dy tM kc ad D A s.heap σ H locs) (hl : lv_has ls 6 [(0, .ref (ad 0)), (1, .int x1), (2, .int x2), (3, .int x3), (4, .int x4), (5, .int x5)]) (h : f_X11_feed x1 x2 x3 x4 x5 σ = some R) : W p l e r_X11_feed s m args below meth c H locs 0 0 Q (F0 m 0 ls []) := by
  have hx := C.1.1
  have hb := C.1.2.1
  unfold f_X11_feed at h
  refine lv_aload_n hx hb dX11_feed_0 rfl (lv_at hl 0 rfl) ?_
  refine rg_X11_316 C Z dX11_feed_1 ?_
  refine lv_bipush (v := 20) hx hb dX11_feed_4 (by decide) ?_
  refine lv_iadd hx hb dX11_feed_6 ?_
  refine lv_sipush (v := 400) hx hb dX11_feed_7 (by decide) ?_
  refine lv_icmp_le (tgt := 15) hx hb dX11_feed_10 (by decide) (fun c10 => ?_) (fun c10 => ?_)
  · have h := ip h c10
    refine lv_aload_n hx hb dX11_feed_15 rfl (lv_at hl 0 rfl) ?_
    refine lv_iload_n hx hb dX11_feed_16 rfl (lv_at hl 1 rfl) ?_
    obtain ⟨σ11, hσ11, h⟩ := ob h
    refine g_callVv eM_ok C Z (k_X11_four hσ11) lk_X11_319 (by decide) rfl rfl hl (by decide) rfl (Nat.le_of_ble_eq_true rfl) (rest := []) rfl dX11_feed_17 (fun H locs Z => ?_)
    refine lv_aload_n hx hb dX11_feed_20 rfl (lv_at hl 0 rfl) ?_
    refine lv_iload_n hx hb dX11_feed_21 rfl (lv_at hl 2 rfl) ?_
    obtain ⟨σ12, hσ12, h⟩ := ob h
    refine g_callVv eM_ok C Z (k_X11_four hσ12) lk_X11_319 (by decide) rfl rfl hl (by decide) rfl (Nat.le_of_ble_eq_true rfl) (rest := []) rfl dX11_feed_22 (fun H locs Z => ?_)
    refine lv_aload_n hx hb dX11_feed_25 rfl (lv_at hl 0 rfl) ?_
    refine lv_iload_n hx hb dX11_feed_26 rfl (lv_at hl 3 rfl) ?_
    obtain ⟨σ13, hσ13, h⟩ := ob h
    refine g_callVv eM_ok C Z (k_X11_four hσ13) lk_X11_319 (by decide) rfl rfl hl (by decide) rfl (Nat.le_of_ble_eq_true rfl) (rest := []) rfl dX11_feed_27 (fun H locs Z => ?_)
    refine lv_aload_n hx hb dX11_feed_30 rfl (lv_at hl 0 rfl) ?_
    refine lv_iload hx hb dX11_feed_31 (lv_at hl 4 rfl) ?_
    obtain ⟨σ14, hσ14, h⟩ := ob h
    refine g_callVv eM_ok C Z (k_X11_four hσ14) lk_X11_319 (by decide) rfl rfl hl (by decide) rfl (Nat.le_of_ble_eq_true rfl) (rest := []) rfl dX11_feed_33 (fun H locs Z => ?_)
    refine lv_aload_n hx hb dX11_feed_36 rfl (lv_at hl 0 rfl) ?_
    refine lv_iload hx hb dX11_feed_37 (lv_at hl 5 rfl) ?_
    obtain ⟨σ15, hσ15, h⟩ := ob h
    refine g_callVv eM_ok C Z (k_X11_four hσ15) lk_X11_319 (by decide) rfl rfl hl (by decide) rfl (Nat.le_of_ble_eq_true rfl) (rest := []) rfl dX11_feed_39 (fun H locs Z => ?_)
    refine lv_aload_n hx hb dX11_feed_42 rfl (lv_at hl 0 rfl) ?_
    refine rg_X11_316 C Z dX11_feed_43 ?_
    obtain rfl := Option.some.inj h
    exact hR _ _ _ _ _ Z dX11_feed_46 rfl
  · have h := im h c10
    refine lv_iconst (v := (-1)) hx hb dX11_feed_13 (by decide) ?_
    obtain rfl := Option.some.inj h
    exact hR _ _ _ _ _ Z dX11_feed_14 rfl
theorem k_X11_feed {l : Launch} {kc : Nat → ClassId} {ad : Nat → Nat} {D : va_G} {x1 : Int32} {x2 : Int32} {x3 : Int32} {x4 : Int32} {x5 : Int32} {σ : St} {R : Int32 × St} (h : f_X11_feed x1 x2 x3 x4 x5 σ = some R) : KC eM tM kc ad D l yX11_feed (.code yX11_feed cX11_feed 6 (some .int)) r_X11_feed [.ref (ad 0), .int x1, .int x2, .int x3, .int x4, .int x5] (some (.int R.1)) σ R.2 := by
  refine g_enter (by decide) (Nat.le_of_ble_eq_true rfl) ?_
  intro p e s m args below meth c A hA C hr hlocks Z ls hl
  have hl : lv_has ls 6 [(0, .ref (ad 0)), (1, .int x1), (2, .int x2), (3, .int x3), (4, .int x4), (5, .int x5)] := hl
  exact w_X11_feed_0 C (g_RTi C.1.1 C.1.2.1 hr hlocks hA)  Z hl h
def r_X11_end : Room := { frames := 0, cells := 0, slots := 0, locals := 0 }
set_option maxRecDepth 20000 in
theorem w_X11_end_0 {p : Program} {l : Launch} {e : Env} {s : State} {m : MethodId} {args : Array Value} {below : List Frame} {meth : Method} {c : Code} {Q : State → Prop} {D : va_G} {kc : Nat → ClassId} {ad : Nat → Nat} {A : Nat → Prop} (C : Cx eM p s m args c cX11_end 2 RX11 D kc A) {R : Int32 × St} {x1 : Int32} {σ : St} (hR : RTi 0 0 p l e r_X11_end s m args below meth c cX11_end tM kc ad D A Q .int R.1 R.2) {H : Heap} {locs : List Loc} {ls : Array Slot} (Z : Dy tM kc ad D A s.heap σ H locs) (hl : lv_has ls 2 [(0, .ref (ad 0)), (1, .int x1)]) (h : f_X11_end x1 σ = some R) : W p l e r_X11_end s m args below meth c H locs 0 0 Q (F0 m 0 ls []) := by
  have hx := C.1.1
  have hb := C.1.2.1
  unfold f_X11_end at h
  refine lv_iload_n hx hb dX11_end_0 rfl (lv_at hl 1 rfl) ?_
  refine lv_if_lt (tgt := 12) hx hb dX11_end_1 (by decide) (fun c1 => ?_) (fun c1 => ?_)
  · have h := ip h c1
    refine lv_iconst (v := (-1)) hx hb dX11_end_12 (by decide) ?_
    obtain rfl := Option.some.inj h
    exact hR _ _ _ _ _ Z dX11_end_13 rfl
  · have h := im h c1
    refine lv_iload_n hx hb dX11_end_4 rfl (lv_at hl 1 rfl) ?_
    refine lv_aload_n hx hb dX11_end_5 rfl (lv_at hl 0 rfl) ?_
    refine rg_X11_316 C Z dX11_end_6 ?_
    refine lv_icmp_le (tgt := 14) hx hb dX11_end_9 (by decide) (fun c9 => ?_) (fun c9 => ?_)
    · have h := ip h c9
      refine lv_aload_n hx hb dX11_end_14 rfl (lv_at hl 0 rfl) ?_
      refine lv_iload_n hx hb dX11_end_15 rfl (lv_at hl 1 rfl) ?_
      obtain ⟨σ3, eσ3, h⟩ := lb h
      refine rp_X11_316 C Z eσ3 dX11_end_16 (fun H locs Z => ?_)
      refine lv_iload_n hx hb dX11_end_19 rfl (lv_at hl 1 rfl) ?_
      obtain rfl := Option.some.inj h
      exact hR _ _ _ _ _ Z dX11_end_20 rfl
    · have h := im h c9
      refine lv_iconst (v := (-1)) hx hb dX11_end_12 (by decide) ?_
      obtain rfl := Option.some.inj h
      exact hR _ _ _ _ _ Z dX11_end_13 rfl
theorem k_X11_end {l : Launch} {kc : Nat → ClassId} {ad : Nat → Nat} {D : va_G} {x1 : Int32} {σ : St} {R : Int32 × St} (h : f_X11_end x1 σ = some R) : KC eM tM kc ad D l yX11_end (.code yX11_end cX11_end 2 (some .int)) r_X11_end [.ref (ad 0), .int x1] (some (.int R.1)) σ R.2 := by
  refine g_enter (by decide) (Nat.le_of_ble_eq_true rfl) ?_
  intro p e s m args below meth c A hA C hr hlocks Z ls hl
  have hl : lv_has ls 2 [(0, .ref (ad 0)), (1, .int x1)] := hl
  exact w_X11_end_0 C (g_RTi C.1.1 C.1.2.1 hr hlocks hA)  Z hl h
def r_X11_fails : Room := { frames := 0, cells := 0, slots := 0, locals := 0 }
set_option maxRecDepth 20000 in
theorem w_X11_fails_0 {p : Program} {l : Launch} {e : Env} {s : State} {m : MethodId} {args : Array Value} {below : List Frame} {meth : Method} {c : Code} {Q : State → Prop} {D : va_G} {kc : Nat → ClassId} {ad : Nat → Nat} {A : Nat → Prop} (C : Cx eM p s m args c cX11_fails 3 RX11 D kc A) {R : Int32 × St} {x1 : Int32} {x2 : Int32} {σ : St} (hR : RTi 0 0 p l e r_X11_fails s m args below meth c cX11_fails tM kc ad D A Q .boolean R.1 R.2) {H : Heap} {locs : List Loc} {ls : Array Slot} (Z : Dy tM kc ad D A s.heap σ H locs) (hl : lv_has ls 3 [(0, .ref (ad 0)), (1, .int x1), (2, .int x2)]) (h : f_X11_fails x1 x2 σ = some R) : W p l e r_X11_fails s m args below meth c H locs 0 0 Q (F0 m 0 ls []) := by
  have hx := C.1.1
  have hb := C.1.2.1
  unfold f_X11_fails at h
  refine lv_aload_n hx hb dX11_fails_0 rfl (lv_at hl 0 rfl) ?_
  refine rg_X11_323 C Z dX11_fails_1 ?_
  refine lv_if_ne (tgt := 19) hx hb dX11_fails_4 (by decide) (fun c4 => ?_) (fun c4 => ?_)
  · have h := im h c4
    refine lv_iconst (v := 0) hx hb dX11_fails_19 (by decide) ?_
    obtain rfl := Option.some.inj h
    exact hR _ _ _ _ _ Z dX11_fails_20 rfl
  · have h := ip h c4
    refine lv_aload_n hx hb dX11_fails_7 rfl (lv_at hl 0 rfl) ?_
    refine lv_iconst (v := 1) hx hb dX11_fails_8 (by decide) ?_
    refine lv_bipush (v := 8) hx hb dX11_fails_9 (by decide) ?_
    refine lv_iload_n hx hb dX11_fails_11 rfl (lv_at hl 2 rfl) ?_
    refine lv_imul hx hb dX11_fails_12 ?_
    refine lv_iadd hx hb dX11_fails_13 ?_
    refine lv_iload_n hx hb dX11_fails_14 rfl (lv_at hl 1 rfl) ?_
    refine lv_iadd hx hb dX11_fails_15 ?_
    obtain ⟨σ3, eσ3, h⟩ := lb h
    refine rp_X11_323 C Z eσ3 dX11_fails_16 (fun H locs Z => ?_)
    refine lv_iconst (v := 0) hx hb dX11_fails_19 (by decide) ?_
    obtain rfl := Option.some.inj h
    exact hR _ _ _ _ _ Z dX11_fails_20 rfl
theorem k_X11_fails {l : Launch} {kc : Nat → ClassId} {ad : Nat → Nat} {D : va_G} {x1 : Int32} {x2 : Int32} {σ : St} {R : Int32 × St} (h : f_X11_fails x1 x2 σ = some R) : KC eM tM kc ad D l yX11_fails (.code yX11_fails cX11_fails 3 (some .boolean)) r_X11_fails [.ref (ad 0), .int x1, .int x2] (some (.int R.1)) σ R.2 := by
  refine g_enter (by decide) (Nat.le_of_ble_eq_true rfl) ?_
  intro p e s m args below meth c A hA C hr hlocks Z ls hl
  have hl : lv_has ls 3 [(0, .ref (ad 0)), (1, .int x1), (2, .int x2)] := hl
  exact w_X11_fails_0 C (g_RTi C.1.1 C.1.2.1 hr hlocks hA)  Z hl h
def r_X11_see : Room := { frames := 0, cells := 0, slots := 0, locals := 0 }
set_option maxRecDepth 20000 in
theorem w_X11_see_38 {p : Program} {l : Launch} {e : Env} {s : State} {m : MethodId} {args : Array Value} {below : List Frame} {meth : Method} {c : Code} {Q : State → Prop} {D : va_G} {kc : Nat → ClassId} {ad : Nat → Nat} {A : Nat → Prop} (C : Cx eM p s m args c cX11_see 1 RX11 D kc A) {R : Int32 × St} {σ : St} (hR : RTi 0 0 p l e r_X11_see s m args below meth c cX11_see tM kc ad D A Q .int R.1 R.2) {H : Heap} {locs : List Loc} {ls : Array Slot} (Z : Dy tM kc ad D A s.heap σ H locs) (hl : lv_has ls 1 [(0, .ref (ad 0))]) (h : f_X11_see_38 σ = some R) : W p l e r_X11_see s m args below meth c H locs 0 0 Q (F0 m 38 ls []) := by
  have hx := C.1.1
  have hb := C.1.2.1
  unfold f_X11_see_38 at h
  refine lv_aload_n hx hb dX11_see_38 rfl (lv_at hl 0 rfl) ?_
  refine rg_X11_326 C Z dX11_see_39 ?_
  refine lv_aload_n hx hb dX11_see_42 rfl (lv_at hl 0 rfl) ?_
  refine rg_X11_316 C Z dX11_see_43 ?_
  refine lv_icmp_ge (tgt := 65) hx hb dX11_see_46 (by decide) (fun c46 => ?_) (fun c46 => ?_)
  · have h := ip h c46
    refine lv_iconst (v := (-1)) hx hb dX11_see_65 (by decide) ?_
    obtain rfl := Option.some.inj h
    exact hR _ _ _ _ _ Z dX11_see_66 rfl
  · have h := im h c46
    refine lv_aload_n hx hb dX11_see_49 rfl (lv_at hl 0 rfl) ?_
    refine rg_X11_61 C Z dX11_see_50 ?_
    refine lv_aload_n hx hb dX11_see_53 rfl (lv_at hl 0 rfl) ?_
    refine rg_X11_326 C Z dX11_see_54 ?_
    obtain ⟨v9, hv9, h⟩ := ob h
    refine g_bald C Z iaM18 hv9 dX11_see_57 ?_
    refine lv_sipush (v := 255) hx hb dX11_see_58 (by decide) ?_
    refine lv_iand hx hb dX11_see_61 ?_
    refine lv_goto (tgt := 66) hx hb dX11_see_62 (by decide) ?_
    obtain rfl := Option.some.inj h
    exact hR _ _ _ _ _ Z dX11_see_66 rfl
set_option maxRecDepth 20000 in
theorem w_X11_see_0 {p : Program} {l : Launch} {e : Env} {s : State} {m : MethodId} {args : Array Value} {below : List Frame} {meth : Method} {c : Code} {Q : State → Prop} {D : va_G} {kc : Nat → ClassId} {ad : Nat → Nat} {A : Nat → Prop} (C : Cx eM p s m args c cX11_see 1 RX11 D kc A) {R : Int32 × St} (hR : RTi 0 0 p l e r_X11_see s m args below meth c cX11_see tM kc ad D A Q .int R.1 R.2) : ∀ (n : Nat) (σ : St) (H : Heap) (locs : List Loc) (ls : Array Slot), Dy tM kc ad D A s.heap σ H locs → lv_has ls 1 [(0, .ref (ad 0))] → f_X11_see_0 n σ = some R → W p l e r_X11_see s m args below meth c H locs 0 0 Q (F0 m 0 ls []) := by
  have hx := C.1.1
  have hb := C.1.2.1
  intro n
  induction n with
  | zero =>
    intro σ H locs ls Z hl h
    exact absurd (show none = some R from h) (by simp)
  | succ n ih =>
    intro σ H locs ls Z hl h
    rw [f_X11_see_0] at h
    refine lv_aload_n hx hb dX11_see_0 rfl (lv_at hl 0 rfl) ?_
    refine rg_X11_326 C Z dX11_see_1 ?_
    refine lv_aload_n hx hb dX11_see_4 rfl (lv_at hl 0 rfl) ?_
    refine rg_X11_316 C Z dX11_see_5 ?_
    refine lv_icmp_ge (tgt := 38) hx hb dX11_see_8 (by decide) (fun c8 => ?_) (fun c8 => ?_)
    · have h := ip h c8
      exact w_X11_see_38 C hR Z (lv_sub hl [0] rfl) h
    · have h := im h c8
      refine lv_aload_n hx hb dX11_see_11 rfl (lv_at hl 0 rfl) ?_
      refine rg_X11_61 C Z dX11_see_12 ?_
      refine lv_aload_n hx hb dX11_see_15 rfl (lv_at hl 0 rfl) ?_
      refine rg_X11_326 C Z dX11_see_16 ?_
      obtain ⟨v7, hv7, h⟩ := ob h
      refine g_bald C Z iaM18 hv7 dX11_see_19 ?_
      refine lv_bipush (v := 32) hx hb dX11_see_20 (by decide) ?_
      refine lv_icmp_ne (tgt := 38) hx hb dX11_see_22 (by decide) (fun c22 => ?_) (fun c22 => ?_)
      · have h := im h c22
        exact w_X11_see_38 C hR Z (lv_sub hl [0] rfl) h
      · have h := ip h c22
        refine lv_aload_n hx hb dX11_see_25 rfl (lv_at hl 0 rfl) ?_
        refine lv_dup hx hb dX11_see_26 rfl ?_
        refine rg_X11_326 C Z dX11_see_27 ?_
        refine lv_iconst (v := 1) hx hb dX11_see_30 (by decide) ?_
        refine lv_iadd hx hb dX11_see_31 ?_
        obtain ⟨σ8, eσ8, h⟩ := lb h
        refine rp_X11_326 C Z eσ8 dX11_see_32 (fun H locs Z => ?_)
        refine lv_goto (tgt := 0) hx hb dX11_see_35 (by decide) ?_
        exact ih _ _ _ _ Z (lv_sub hl [0] rfl) h
theorem k_X11_see {l : Launch} {kc : Nat → ClassId} {ad : Nat → Nat} {D : va_G} {σ : St} {R : Int32 × St} (h : f_X11_see σ = some R) : KC eM tM kc ad D l yX11_see (.code yX11_see cX11_see 1 (some .int)) r_X11_see [.ref (ad 0)] (some (.int R.1)) σ R.2 := by
  refine g_enter (by decide) (Nat.le_of_ble_eq_true rfl) ?_
  intro p e s m args below meth c A hA C hr hlocks Z ls hl
  have hl : lv_has ls 1 [(0, .ref (ad 0))] := hl
  exact w_X11_see_0 C (g_RTi C.1.1 C.1.2.1 hr hlocks hA)  _ _ _ _ _ Z (lv_sub hl [0] rfl) h
