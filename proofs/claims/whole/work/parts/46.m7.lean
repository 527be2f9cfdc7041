def r_X11_lostBy : Room := { frames := 1, cells := 0, slots := 0, locals := 25 }
set_option maxRecDepth 20000 in
theorem w_X11_lostBy_72 {p : Program} {l : Launch} {e : Env} {s : State} {m : MethodId} {args : Array Value} {below : List Frame} {meth : Method} {c : Code} {Q : State → Prop} {D : va_G} {kc : Nat → ClassId} {ad : Nat → Nat} {A : Nat → Prop} (C : Cx eM p s m args c cX11_lostBy 7 RX11 D kc A) {R : Int32} {x1 : Int32} {x2 : Int32} {x3 : Int32} {x4 : Int32} {x6 : Int32} {y0 : Int32} {σ : St} (hR : RTi 0 0 p l e r_X11_lostBy s m args below meth c cX11_lostBy tM kc ad D A Q .int R σ) {k17 : Int32 → Int32 → Option (Int32)} {k5 : Int32 → Int32 → Option (Int32)} (hk17 : ∀ (x5 : Int32) (x6 : Int32) (H : Heap) (locs : List Loc) (ls : Array Slot), Dy tM kc ad D A s.heap σ H locs → lv_has ls 7 [(0, .ref (ad 0)), (1, .int x1), (2, .int x2), (3, .int x3), (4, .int x4), (5, .int x5), (6, .int x6)] → k17 x5 x6 = some R → W p l e r_X11_lostBy s m args below meth c H locs 0 0 Q (F0 m 17 ls [])) (hk5 : ∀ (x3 : Int32) (x4 : Int32) (H : Heap) (locs : List Loc) (ls : Array Slot), Dy tM kc ad D A s.heap σ H locs → lv_has ls 7 [(0, .ref (ad 0)), (1, .int x1), (2, .int x2), (3, .int x3), (4, .int x4)] → k5 x3 x4 = some R → W p l e r_X11_lostBy s m args below meth c H locs 0 0 Q (F0 m 5 ls [])) {H : Heap} {locs : List Loc} {ls : Array Slot} (Z : Dy tM kc ad D A s.heap σ H locs) (hl : lv_has ls 7 [(0, .ref (ad 0)), (1, .int x1), (2, .int x2), (3, .int x3), (4, .int x4), (6, .int x6)]) (h : f_X11_lostBy_72 x1 x2 x3 x4 x6 y0 σ k17 k5 = some R) : W p l e r_X11_lostBy s m args below meth c H locs 0 0 Q (F0 m 72 ls [.int y0]) := by
  have hx := C.1.1
  have hb := C.1.2.1
  unfold f_X11_lostBy_72 at h
  refine lv_istore (lv' := [(5, .int y0), (0, .ref (ad 0)), (1, .int x1), (2, .int x2), (3, .int x3), (4, .int x4), (6, .int x6)]) hx hb dX11_lostBy_72 hl (by decide) rfl (fun ls hl => ?_)
  obtain ⟨v18, ev18, h⟩ := lb h
  refine lv_iinc (v := v18) (lv' := [(6, .int v18), (5, .int y0), (0, .ref (ad 0)), (1, .int x1), (2, .int x2), (3, .int x3), (4, .int x4)]) hx hb dX11_lostBy_74 hl (k := 6) rfl (by rw [ev18]; rfl) (by decide) rfl (fun ls hl => ?_)
  refine lv_goto (tgt := 17) hx hb dX11_lostBy_77 (by decide) ?_
  exact hk17 _ _ _ _ _ Z (lv_sub hl [2, 3, 4, 5, 6, 1, 0] rfl) h
set_option maxRecDepth 20000 in
theorem w_X11_lostBy_67 {p : Program} {l : Launch} {e : Env} {s : State} {m : MethodId} {args : Array Value} {below : List Frame} {meth : Method} {c : Code} {Q : State → Prop} {D : va_G} {kc : Nat → ClassId} {ad : Nat → Nat} {A : Nat → Prop} (C : Cx eM p s m args c cX11_lostBy 7 RX11 D kc A) {R : Int32} {x1 : Int32} {x2 : Int32} {x3 : Int32} {x4 : Int32} {x6 : Int32} {σ : St} (hR : RTi 0 0 p l e r_X11_lostBy s m args below meth c cX11_lostBy tM kc ad D A Q .int R σ) {k17 : Int32 → Int32 → Option (Int32)} {k5 : Int32 → Int32 → Option (Int32)} (hk17 : ∀ (x5 : Int32) (x6 : Int32) (H : Heap) (locs : List Loc) (ls : Array Slot), Dy tM kc ad D A s.heap σ H locs → lv_has ls 7 [(0, .ref (ad 0)), (1, .int x1), (2, .int x2), (3, .int x3), (4, .int x4), (5, .int x5), (6, .int x6)] → k17 x5 x6 = some R → W p l e r_X11_lostBy s m args below meth c H locs 0 0 Q (F0 m 17 ls [])) (hk5 : ∀ (x3 : Int32) (x4 : Int32) (H : Heap) (locs : List Loc) (ls : Array Slot), Dy tM kc ad D A s.heap σ H locs → lv_has ls 7 [(0, .ref (ad 0)), (1, .int x1), (2, .int x2), (3, .int x3), (4, .int x4)] → k5 x3 x4 = some R → W p l e r_X11_lostBy s m args below meth c H locs 0 0 Q (F0 m 5 ls [])) {H : Heap} {locs : List Loc} {ls : Array Slot} (Z : Dy tM kc ad D A s.heap σ H locs) (hl : lv_has ls 7 [(0, .ref (ad 0)), (1, .int x1), (2, .int x2), (3, .int x3), (4, .int x4), (6, .int x6)]) (h : f_X11_lostBy_67 x1 x2 x3 x4 x6 σ k17 k5 = some R) : W p l e r_X11_lostBy s m args below meth c H locs 0 0 Q (F0 m 67 ls []) := by
  have hx := C.1.1
  have hb := C.1.2.1
  unfold f_X11_lostBy_67 at h
  refine lv_iconst (v := 1) hx hb dX11_lostBy_67 (by decide) ?_
  refine lv_goto (tgt := 72) hx hb dX11_lostBy_68 (by decide) ?_
  exact w_X11_lostBy_72 C hR hk17 hk5 Z (lv_sub hl [0, 1, 2, 3, 4, 5] rfl) h
set_option maxRecDepth 20000 in
theorem w_X11_lostBy_71 {p : Program} {l : Launch} {e : Env} {s : State} {m : MethodId} {args : Array Value} {below : List Frame} {meth : Method} {c : Code} {Q : State → Prop} {D : va_G} {kc : Nat → ClassId} {ad : Nat → Nat} {A : Nat → Prop} (C : Cx eM p s m args c cX11_lostBy 7 RX11 D kc A) {R : Int32} {x1 : Int32} {x2 : Int32} {x3 : Int32} {x4 : Int32} {x6 : Int32} {σ : St} (hR : RTi 0 0 p l e r_X11_lostBy s m args below meth c cX11_lostBy tM kc ad D A Q .int R σ) {k17 : Int32 → Int32 → Option (Int32)} {k5 : Int32 → Int32 → Option (Int32)} (hk17 : ∀ (x5 : Int32) (x6 : Int32) (H : Heap) (locs : List Loc) (ls : Array Slot), Dy tM kc ad D A s.heap σ H locs → lv_has ls 7 [(0, .ref (ad 0)), (1, .int x1), (2, .int x2), (3, .int x3), (4, .int x4), (5, .int x5), (6, .int x6)] → k17 x5 x6 = some R → W p l e r_X11_lostBy s m args below meth c H locs 0 0 Q (F0 m 17 ls [])) (hk5 : ∀ (x3 : Int32) (x4 : Int32) (H : Heap) (locs : List Loc) (ls : Array Slot), Dy tM kc ad D A s.heap σ H locs → lv_has ls 7 [(0, .ref (ad 0)), (1, .int x1), (2, .int x2), (3, .int x3), (4, .int x4)] → k5 x3 x4 = some R → W p l e r_X11_lostBy s m args below meth c H locs 0 0 Q (F0 m 5 ls [])) {H : Heap} {locs : List Loc} {ls : Array Slot} (Z : Dy tM kc ad D A s.heap σ H locs) (hl : lv_has ls 7 [(0, .ref (ad 0)), (1, .int x1), (2, .int x2), (3, .int x3), (4, .int x4), (6, .int x6)]) (h : f_X11_lostBy_71 x1 x2 x3 x4 x6 σ k17 k5 = some R) : W p l e r_X11_lostBy s m args below meth c H locs 0 0 Q (F0 m 71 ls []) := by
  have hx := C.1.1
  have hb := C.1.2.1
  unfold f_X11_lostBy_71 at h
  refine lv_iconst (v := 0) hx hb dX11_lostBy_71 (by decide) ?_
  exact w_X11_lostBy_72 C hR hk17 hk5 Z (lv_sub hl [0, 1, 2, 3, 4, 5] rfl) h
set_option maxRecDepth 20000 in
theorem w_X11_lostBy_96 {p : Program} {l : Launch} {e : Env} {s : State} {m : MethodId} {args : Array Value} {below : List Frame} {meth : Method} {c : Code} {Q : State → Prop} {D : va_G} {kc : Nat → ClassId} {ad : Nat → Nat} {A : Nat → Prop} (C : Cx eM p s m args c cX11_lostBy 7 RX11 D kc A) {R : Int32} {x1 : Int32} {x2 : Int32} {x4 : Int32} {y0 : Int32} {y1 : Int32} {σ : St} (hR : RTi 0 0 p l e r_X11_lostBy s m args below meth c cX11_lostBy tM kc ad D A Q .int R σ) {k5 : Int32 → Int32 → Option (Int32)} (hk5 : ∀ (x3 : Int32) (x4 : Int32) (H : Heap) (locs : List Loc) (ls : Array Slot), Dy tM kc ad D A s.heap σ H locs → lv_has ls 7 [(0, .ref (ad 0)), (1, .int x1), (2, .int x2), (3, .int x3), (4, .int x4)] → k5 x3 x4 = some R → W p l e r_X11_lostBy s m args below meth c H locs 0 0 Q (F0 m 5 ls [])) {H : Heap} {locs : List Loc} {ls : Array Slot} (Z : Dy tM kc ad D A s.heap σ H locs) (hl : lv_has ls 7 [(0, .ref (ad 0)), (1, .int x1), (2, .int x2), (4, .int x4)]) (h : f_X11_lostBy_96 x1 x2 x4 y0 y1 σ k5 = some R) : W p l e r_X11_lostBy s m args below meth c H locs 0 0 Q (F0 m 96 ls [.int y1, .int y0]) := by
  have hx := C.1.1
  have hb := C.1.2.1
  unfold f_X11_lostBy_96 at h
  refine lv_iadd hx hb dX11_lostBy_96 ?_
  obtain ⟨v20, ev20, h⟩ := lb h
  refine tn_i ev20 ?_
  refine lv_istore_n (lv' := [(3, .int v20), (0, .ref (ad 0)), (1, .int x1), (2, .int x2), (4, .int x4)]) hx hb dX11_lostBy_97 rfl hl (by decide) rfl (fun ls hl => ?_)
  obtain ⟨v21, ev21, h⟩ := lb h
  refine lv_iinc (v := v21) (lv' := [(4, .int v21), (3, .int v20), (0, .ref (ad 0)), (1, .int x1), (2, .int x2)]) hx hb dX11_lostBy_98 hl (k := 4) rfl (by rw [ev21]; rfl) (by decide) rfl (fun ls hl => ?_)
  refine lv_goto (tgt := 5) hx hb dX11_lostBy_101 (by decide) ?_
  exact hk5 _ _ _ _ _ Z (lv_sub hl [2, 3, 4, 1, 0] rfl) h
set_option maxRecDepth 20000 in
theorem w_X11_lostBy_80 {p : Program} {l : Launch} {e : Env} {s : State} {m : MethodId} {args : Array Value} {below : List Frame} {meth : Method} {c : Code} {Q : State → Prop} {D : va_G} {kc : Nat → ClassId} {ad : Nat → Nat} {A : Nat → Prop} (C : Cx eM p s m args c cX11_lostBy 7 RX11 D kc A) {R : Int32} {x1 : Int32} {x2 : Int32} {x3 : Int32} {x4 : Int32} {x5 : Int32} {σ : St} (hR : RTi 0 0 p l e r_X11_lostBy s m args below meth c cX11_lostBy tM kc ad D A Q .int R σ) {k5 : Int32 → Int32 → Option (Int32)} (hk5 : ∀ (x3 : Int32) (x4 : Int32) (H : Heap) (locs : List Loc) (ls : Array Slot), Dy tM kc ad D A s.heap σ H locs → lv_has ls 7 [(0, .ref (ad 0)), (1, .int x1), (2, .int x2), (3, .int x3), (4, .int x4)] → k5 x3 x4 = some R → W p l e r_X11_lostBy s m args below meth c H locs 0 0 Q (F0 m 5 ls [])) {H : Heap} {locs : List Loc} {ls : Array Slot} (Z : Dy tM kc ad D A s.heap σ H locs) (hl : lv_has ls 7 [(0, .ref (ad 0)), (1, .int x1), (2, .int x2), (3, .int x3), (4, .int x4), (5, .int x5)]) (h : f_X11_lostBy_80 x1 x2 x3 x4 x5 σ k5 = some R) : W p l e r_X11_lostBy s m args below meth c H locs 0 0 Q (F0 m 80 ls []) := by
  have hx := C.1.1
  have hb := C.1.2.1
  unfold f_X11_lostBy_80 at h
  refine lv_iload_n hx hb dX11_lostBy_80 rfl (lv_at hl 3 rfl) ?_
  refine lv_iload hx hb dX11_lostBy_81 (lv_at hl 5 rfl) ?_
  refine lv_if_eq (tgt := 95) hx hb dX11_lostBy_83 (by decide) (fun c83 => ?_) (fun c83 => ?_)
  · have h := ip h c83
    refine lv_iconst (v := 0) hx hb dX11_lostBy_95 (by decide) ?_
    exact w_X11_lostBy_96 C hR hk5 Z (lv_sub hl [0, 1, 2, 4] rfl) h
  · have h := im h c83
    refine lv_aload_n hx hb dX11_lostBy_86 rfl (lv_at hl 0 rfl) ?_
    refine rg_X11_195 C Z dX11_lostBy_87 ?_
    refine lv_iload_n hx hb dX11_lostBy_90 rfl (lv_at hl 1 rfl) ?_
    obtain ⟨v19, hv19, h⟩ := ob h
    refine g_iald C Z iaM51 hv19 dX11_lostBy_91 ?_
    refine lv_goto (tgt := 96) hx hb dX11_lostBy_92 (by decide) ?_
    exact w_X11_lostBy_96 C hR hk5 Z (lv_sub hl [0, 1, 2, 4] rfl) h
set_option maxRecDepth 20000 in
theorem w_X11_lostBy_17 {p : Program} {l : Launch} {e : Env} {s : State} {m : MethodId} {args : Array Value} {below : List Frame} {meth : Method} {c : Code} {Q : State → Prop} {D : va_G} {kc : Nat → ClassId} {ad : Nat → Nat} {A : Nat → Prop} (C : Cx eM p s m args c cX11_lostBy 7 RX11 D kc A) {R : Int32} {x1 : Int32} {x2 : Int32} {x3 : Int32} {x4 : Int32} {σ : St} (hR : RTi 0 0 p l e r_X11_lostBy s m args below meth c cX11_lostBy tM kc ad D A Q .int R σ) {k5 : Int32 → Int32 → Option (Int32)} (hk5 : ∀ (x3 : Int32) (x4 : Int32) (H : Heap) (locs : List Loc) (ls : Array Slot), Dy tM kc ad D A s.heap σ H locs → lv_has ls 7 [(0, .ref (ad 0)), (1, .int x1), (2, .int x2), (3, .int x3), (4, .int x4)] → k5 x3 x4 = some R → W p l e r_X11_lostBy s m args below meth c H locs 0 0 Q (F0 m 5 ls [])) : ∀ (n : Nat) (x5 : Int32) (x6 : Int32) (H : Heap) (locs : List Loc) (ls : Array Slot), Dy tM kc ad D A s.heap σ H locs → lv_has ls 7 [(0, .ref (ad 0)), (1, .int x1), (2, .int x2), (3, .int x3), (4, .int x4), (5, .int x5), (6, .int x6)] → f_X11_lostBy_17 x1 x2 x3 x4 σ k5 n x5 x6 = some R → W p l e r_X11_lostBy s m args below meth c H locs 0 0 Q (F0 m 17 ls []) := by
  have hx := C.1.1
  have hb := C.1.2.1
  intro n
  induction n with
  | zero =>
    intro x5 x6 H locs ls Z hl h
    exact absurd (show none = some R from h) (by simp)
  | succ n ih =>
    intro x5 x6 H locs ls Z hl h
    rw [f_X11_lostBy_17] at h
    refine lv_iload hx hb dX11_lostBy_17 (lv_at hl 6 rfl) ?_
    refine lv_aload_n hx hb dX11_lostBy_19 rfl (lv_at hl 0 rfl) ?_
    refine rg_X11_574 C Z dX11_lostBy_20 ?_
    refine lv_icmp_ge (tgt := 80) hx hb dX11_lostBy_23 (by decide) (fun c23 => ?_) (fun c23 => ?_)
    · have h := ip h c23
      exact w_X11_lostBy_80 C hR hk5 Z (lv_sub hl [0, 1, 2, 3, 4, 5] rfl) h
    · have h := im h c23
      refine lv_iload hx hb dX11_lostBy_26 (lv_at hl 5 rfl) ?_
      refine lv_if_ne (tgt := 67) hx hb dX11_lostBy_28 (by decide) (fun c28 => ?_) (fun c28 => ?_)
      · have h := im h c28
        exact w_X11_lostBy_67 C hR ih hk5 Z (lv_sub hl [0, 1, 2, 3, 4, 6] rfl) h
      · have h := ip h c28
        refine lv_aload_n hx hb dX11_lostBy_31 rfl (lv_at hl 0 rfl) ?_
        refine rg_X11_198 C Z dX11_lostBy_32 ?_
        refine lv_iload hx hb dX11_lostBy_35 (lv_at hl 6 rfl) ?_
        obtain ⟨v15, hv15, h⟩ := ob h
        refine g_iald C Z iaM52 hv15 dX11_lostBy_37 ?_
        refine lv_iload_n hx hb dX11_lostBy_38 rfl (lv_at hl 1 rfl) ?_
        refine lv_icmp_ne (tgt := 71) hx hb dX11_lostBy_39 (by decide) (fun c39 => ?_) (fun c39 => ?_)
        · have h := im h c39
          exact w_X11_lostBy_71 C hR ih hk5 Z (lv_sub hl [0, 1, 2, 3, 4, 6] rfl) h
        · have h := ip h c39
          refine lv_iload hx hb dX11_lostBy_42 (lv_at hl 4 rfl) ?_
          refine lv_i2l (v := x4.toInt64) hx hb dX11_lostBy_44 rfl ?_
          refine lv_aload_n hx hb dX11_lostBy_45 rfl (lv_at hl 0 rfl) ?_
          refine rg_X11_201 C Z dX11_lostBy_46 ?_
          refine lv_iload hx hb dX11_lostBy_49 (lv_at hl 6 rfl) ?_
          obtain ⟨v16, hv16, h⟩ := ob h
          refine g_iald C Z iaM53 hv16 dX11_lostBy_51 ?_
          refine lv_i2l (v := v16.toInt64) hx hb dX11_lostBy_52 rfl ?_
          refine lv_aload_n hx hb dX11_lostBy_53 rfl (lv_at hl 0 rfl) ?_
          refine rg_X11_204 C Z dX11_lostBy_54 ?_
          refine lv_iload hx hb dX11_lostBy_57 (lv_at hl 6 rfl) ?_
          obtain ⟨v17, hv17, h⟩ := ob h
          refine g_iald C Z iaM54 hv17 dX11_lostBy_59 ?_
          refine lv_i2l (v := v17.toInt64) hx hb dX11_lostBy_60 rfl ?_
          refine g_callSi eM_ok C Z (k_X11_in x4.toInt64 v16.toInt64 v17.toInt64 σ) lk_X11_233 hl (by decide) rfl (Nat.le_of_ble_eq_true rfl) (rest := []) rfl dX11_lostBy_61 (fun H locs Z => ?_)
          refine lv_if_eq (tgt := 71) hx hb dX11_lostBy_64 (by decide) (fun c64 => ?_) (fun c64 => ?_)
          · have h := ip h c64
            exact w_X11_lostBy_71 C hR ih hk5 Z (lv_sub hl [0, 1, 2, 3, 4, 6] rfl) h
          · have h := im h c64
            exact w_X11_lostBy_67 C hR ih hk5 Z (lv_sub hl [0, 1, 2, 3, 4, 6] rfl) h
set_option maxRecDepth 20000 in
theorem w_X11_lostBy_5 {p : Program} {l : Launch} {e : Env} {s : State} {m : MethodId} {args : Array Value} {below : List Frame} {meth : Method} {c : Code} {Q : State → Prop} {D : va_G} {kc : Nat → ClassId} {ad : Nat → Nat} {A : Nat → Prop} (C : Cx eM p s m args c cX11_lostBy 7 RX11 D kc A) {R : Int32} {x1 : Int32} {x2 : Int32} {σ : St} (hR : RTi 0 0 p l e r_X11_lostBy s m args below meth c cX11_lostBy tM kc ad D A Q .int R σ) : ∀ (n : Nat) (x3 : Int32) (x4 : Int32) (H : Heap) (locs : List Loc) (ls : Array Slot), Dy tM kc ad D A s.heap σ H locs → lv_has ls 7 [(0, .ref (ad 0)), (1, .int x1), (2, .int x2), (3, .int x3), (4, .int x4)] → f_X11_lostBy_5 x1 x2 σ n x3 x4 = some R → W p l e r_X11_lostBy s m args below meth c H locs 0 0 Q (F0 m 5 ls []) := by
  have hx := C.1.1
  have hb := C.1.2.1
  intro n
  induction n with
  | zero =>
    intro x3 x4 H locs ls Z hl h
    exact absurd (show none = some R from h) (by simp)
  | succ n ih =>
    intro x3 x4 H locs ls Z hl h
    rw [f_X11_lostBy_5] at h
    refine lv_iload hx hb dX11_lostBy_5 (lv_at hl 4 rfl) ?_
    refine lv_iload_n hx hb dX11_lostBy_7 rfl (lv_at hl 2 rfl) ?_
    refine lv_icmp_gt (tgt := 104) hx hb dX11_lostBy_8 (by decide) (fun c8 => ?_) (fun c8 => ?_)
    · have h := ip h c8
      refine lv_iload_n hx hb dX11_lostBy_104 rfl (lv_at hl 3 rfl) ?_
      obtain rfl := Option.some.inj h
      exact hR _ _ _ _ _ Z dX11_lostBy_105 rfl
    · have h := im h c8
      refine lv_iconst (v := 0) hx hb dX11_lostBy_11 (by decide) ?_
      refine lv_istore (lv' := [(5, .int 0), (0, .ref (ad 0)), (1, .int x1), (2, .int x2), (3, .int x3), (4, .int x4)]) hx hb dX11_lostBy_12 hl (by decide) rfl (fun ls hl => ?_)
      refine lv_iconst (v := 0) hx hb dX11_lostBy_14 (by decide) ?_
      refine lv_istore (lv' := [(6, .int 0), (5, .int 0), (0, .ref (ad 0)), (1, .int x1), (2, .int x2), (3, .int x3), (4, .int x4)]) hx hb dX11_lostBy_15 hl (by decide) rfl (fun ls hl => ?_)
      exact w_X11_lostBy_17 C hR ih _ _ _ _ _ _ Z (lv_sub hl [2, 3, 4, 5, 6, 1, 0] rfl) h
set_option maxRecDepth 20000 in
theorem w_X11_lostBy_0 {p : Program} {l : Launch} {e : Env} {s : State} {m : MethodId} {args : Array Value} {below : List Frame} {meth : Method} {c : Code} {Q : State → Prop} {D : va_G} {kc : Nat → ClassId} {ad : Nat → Nat} {A : Nat → Prop} (C : Cx eM p s m args c cX11_lostBy 7 RX11 D kc A) {R : Int32} {x1 : Int32} {x2 : Int32} {σ : St} (hR : RTi 0 0 p l e r_X11_lostBy s m args below meth c cX11_lostBy tM kc ad D A Q .int R σ) {H : Heap} {locs : List Loc} {ls : Array Slot} (Z : Dy tM kc ad D A s.heap σ H locs) (hl : lv_has ls 7 [(0, .ref (ad 0)), (1, .int x1), (2, .int x2)]) (h : f_X11_lostBy x1 x2 σ = some R) : W p l e r_X11_lostBy s m args below meth c H locs 0 0 Q (F0 m 0 ls []) := by
  have hx := C.1.1
  have hb := C.1.2.1
  unfold f_X11_lostBy at h
  refine lv_iconst (v := 0) hx hb dX11_lostBy_0 (by decide) ?_
  refine lv_istore_n (lv' := [(3, .int 0), (0, .ref (ad 0)), (1, .int x1), (2, .int x2)]) hx hb dX11_lostBy_1 rfl hl (by decide) rfl (fun ls hl => ?_)
  refine lv_iconst (v := 0) hx hb dX11_lostBy_2 (by decide) ?_
  refine lv_istore (lv' := [(4, .int 0), (3, .int 0), (0, .ref (ad 0)), (1, .int x1), (2, .int x2)]) hx hb dX11_lostBy_3 hl (by decide) rfl (fun ls hl => ?_)
  exact w_X11_lostBy_5 C hR _ _ _ _ _ _ Z (lv_sub hl [2, 3, 4, 1, 0] rfl) h
theorem k_X11_lostBy {l : Launch} {kc : Nat → ClassId} {ad : Nat → Nat} {D : va_G} {x1 : Int32} {x2 : Int32} {σ : St} {R : Int32} (h : f_X11_lostBy x1 x2 σ = some R) : KC eM tM kc ad D l yX11_lostBy (.code yX11_lostBy cX11_lostBy 7 (some .int)) r_X11_lostBy [.ref (ad 0), .int x1, .int x2] (some (.int R)) σ σ := by
  refine g_enter (by decide) (Nat.le_of_ble_eq_true rfl) ?_
  intro p e s m args below meth c A hA C hr hlocks Z ls hl
  have hl : lv_has ls 7 [(0, .ref (ad 0)), (1, .int x1), (2, .int x2)] := hl
  exact w_X11_lostBy_0 C (g_RTi C.1.1 C.1.2.1 hr hlocks hA)  Z hl h
def r_X11_lost : Room := { frames := 2, cells := 0, slots := 0, locals := 51 }
set_option maxRecDepth 20000 in
theorem w_X11_lost_24 {p : Program} {l : Launch} {e : Env} {s : State} {m : MethodId} {args : Array Value} {below : List Frame} {meth : Method} {c : Code} {Q : State → Prop} {D : va_G} {kc : Nat → ClassId} {ad : Nat → Nat} {A : Nat → Prop} (C : Cx eM p s m args c cX11_lost 3 RX11 D kc A) {R : Int32} {σ : St} (hR : RTi 0 0 p l e r_X11_lost s m args below meth c cX11_lost tM kc ad D A Q .int R σ) {H : Heap} {locs : List Loc} {ls : Array Slot} (Z : Dy tM kc ad D A s.heap σ H locs) (hl : lv_has ls 3 []) (h : f_X11_lost_24 σ = some R) : W p l e r_X11_lost s m args below meth c H locs 0 0 Q (F0 m 24 ls []) := by
  have hx := C.1.1
  have hb := C.1.2.1
  unfold f_X11_lost_24 at h
  refine lv_iconst (v := (-1)) hx hb dX11_lost_24 (by decide) ?_
  obtain rfl := Option.some.inj h
  exact hR _ _ _ _ _ Z dX11_lost_25 rfl
set_option maxRecDepth 20000 in
theorem w_X11_lost_0 {p : Program} {l : Launch} {e : Env} {s : State} {m : MethodId} {args : Array Value} {below : List Frame} {meth : Method} {c : Code} {Q : State → Prop} {D : va_G} {kc : Nat → ClassId} {ad : Nat → Nat} {A : Nat → Prop} (C : Cx eM p s m args c cX11_lost 3 RX11 D kc A) {R : Int32} {x1 : Int32} {x2 : Int32} {σ : St} (hR : RTi 0 0 p l e r_X11_lost s m args below meth c cX11_lost tM kc ad D A Q .int R σ) {H : Heap} {locs : List Loc} {ls : Array Slot} (Z : Dy tM kc ad D A s.heap σ H locs) (hl : lv_has ls 3 [(0, .ref (ad 0)), (1, .int x1), (2, .int x2)]) (h : f_X11_lost x1 x2 σ = some R) : W p l e r_X11_lost s m args below meth c H locs 0 0 Q (F0 m 0 ls []) := by
  have hx := C.1.1
  have hb := C.1.2.1
  unfold f_X11_lost at h
  refine lv_aload_n hx hb dX11_lost_0 rfl (lv_at hl 0 rfl) ?_
  refine lv_iload_n hx hb dX11_lost_1 rfl (lv_at hl 1 rfl) ?_
  refine g_callVi eM_ok C Z (k_X11_isTown x1 σ) lk_X11_577 (by decide) rfl rfl hl (by decide) rfl (Nat.le_of_ble_eq_true rfl) (rest := []) rfl dX11_lost_2 (fun H locs Z => ?_)
  refine lv_if_eq (tgt := 24) hx hb dX11_lost_5 (by decide) (fun c5 => ?_) (fun c5 => ?_)
  · have h := ip h c5
    exact w_X11_lost_24 C hR Z (lv_sub hl [] rfl) h
  · have h := im h c5
    refine lv_iload_n hx hb dX11_lost_8 rfl (lv_at hl 2 rfl) ?_
    refine g_callSi eM_ok C Z (k_X11_isWeek x2 σ) lk_X11_580 hl (by decide) rfl (Nat.le_of_ble_eq_true rfl) (rest := []) rfl dX11_lost_9 (fun H locs Z => ?_)
    refine lv_if_eq (tgt := 24) hx hb dX11_lost_12 (by decide) (fun c12 => ?_) (fun c12 => ?_)
    · have h := ip h c12
      exact w_X11_lost_24 C hR Z (lv_sub hl [] rfl) h
    · have h := im h c12
      refine lv_aload_n hx hb dX11_lost_15 rfl (lv_at hl 0 rfl) ?_
      refine lv_iload_n hx hb dX11_lost_16 rfl (lv_at hl 1 rfl) ?_
      refine lv_iload_n hx hb dX11_lost_17 rfl (lv_at hl 2 rfl) ?_
      obtain ⟨v3, hv3, h⟩ := ob h
      refine g_callVi eM_ok C Z (k_X11_lostBy hv3) lk_X11_583 (by decide) rfl rfl hl (by decide) rfl (Nat.le_of_ble_eq_true rfl) (rest := []) rfl dX11_lost_18 (fun H locs Z => ?_)
      refine lv_goto (tgt := 25) hx hb dX11_lost_21 (by decide) ?_
      obtain rfl := Option.some.inj h
      exact hR _ _ _ _ _ Z dX11_lost_25 rfl
theorem k_X11_lost {l : Launch} {kc : Nat → ClassId} {ad : Nat → Nat} {D : va_G} {x1 : Int32} {x2 : Int32} {σ : St} {R : Int32} (h : f_X11_lost x1 x2 σ = some R) : KC eM tM kc ad D l yX11_lost (.code yX11_lost cX11_lost 3 (some .int)) r_X11_lost [.ref (ad 0), .int x1, .int x2] (some (.int R)) σ σ := by
  refine g_enter (by decide) (Nat.le_of_ble_eq_true rfl) ?_
  intro p e s m args below meth c A hA C hr hlocks Z ls hl
  have hl : lv_has ls 3 [(0, .ref (ad 0)), (1, .int x1), (2, .int x2)] := hl
  exact w_X11_lost_0 C (g_RTi C.1.1 C.1.2.1 hr hlocks hA)  Z hl h
def r_X11_gaveWay : Room := { frames := 2, cells := 0, slots := 0, locals := 51 }
set_option maxRecDepth 20000 in
theorem w_X11_gaveWay_25 {p : Program} {l : Launch} {e : Env} {s : State} {m : MethodId} {args : Array Value} {below : List Frame} {meth : Method} {c : Code} {Q : State → Prop} {D : va_G} {kc : Nat → ClassId} {ad : Nat → Nat} {A : Nat → Prop} (C : Cx eM p s m args c cX11_gaveWay 4 RX11 D kc A) {R : Int32} {σ : St} (hR : RTi 0 0 p l e r_X11_gaveWay s m args below meth c cX11_gaveWay tM kc ad D A Q .boolean R σ) {H : Heap} {locs : List Loc} {ls : Array Slot} (Z : Dy tM kc ad D A s.heap σ H locs) (hl : lv_has ls 4 []) (h : f_X11_gaveWay_25 σ = some R) : W p l e r_X11_gaveWay s m args below meth c H locs 0 0 Q (F0 m 25 ls []) := by
  have hx := C.1.1
  have hb := C.1.2.1
  unfold f_X11_gaveWay_25 at h
  refine lv_iconst (v := 0) hx hb dX11_gaveWay_25 (by decide) ?_
  obtain rfl := Option.some.inj h
  exact hR _ _ _ _ _ Z dX11_gaveWay_26 rfl
set_option maxRecDepth 20000 in
theorem w_X11_gaveWay_0 {p : Program} {l : Launch} {e : Env} {s : State} {m : MethodId} {args : Array Value} {below : List Frame} {meth : Method} {c : Code} {Q : State → Prop} {D : va_G} {kc : Nat → ClassId} {ad : Nat → Nat} {A : Nat → Prop} (C : Cx eM p s m args c cX11_gaveWay 4 RX11 D kc A) {R : Int32} {x1 : Int32} {x2 : Int32} {σ : St} (hR : RTi 0 0 p l e r_X11_gaveWay s m args below meth c cX11_gaveWay tM kc ad D A Q .boolean R σ) {H : Heap} {locs : List Loc} {ls : Array Slot} (Z : Dy tM kc ad D A s.heap σ H locs) (hl : lv_has ls 4 [(0, .ref (ad 0)), (1, .int x1), (2, .int x2)]) (h : f_X11_gaveWay x1 x2 σ = some R) : W p l e r_X11_gaveWay s m args below meth c H locs 0 0 Q (F0 m 0 ls []) := by
  have hx := C.1.1
  have hb := C.1.2.1
  unfold f_X11_gaveWay at h
  refine lv_aload_n hx hb dX11_gaveWay_0 rfl (lv_at hl 0 rfl) ?_
  refine lv_iload_n hx hb dX11_gaveWay_1 rfl (lv_at hl 1 rfl) ?_
  refine lv_iload_n hx hb dX11_gaveWay_2 rfl (lv_at hl 2 rfl) ?_
  obtain ⟨v5, hv5, h⟩ := ob h
  refine g_callVi eM_ok C Z (k_X11_lostBy hv5) lk_X11_583 (by decide) rfl rfl hl (by decide) rfl (Nat.le_of_ble_eq_true rfl) (rest := []) rfl dX11_gaveWay_3 (fun H locs Z => ?_)
  refine lv_istore_n (lv' := [(3, .int v5), (0, .ref (ad 0)), (1, .int x1), (2, .int x2)]) hx hb dX11_gaveWay_6 rfl hl (by decide) rfl (fun ls hl => ?_)
  refine lv_iload_n hx hb dX11_gaveWay_7 rfl (lv_at hl 0 rfl) ?_
  refine lv_if_le (tgt := 25) hx hb dX11_gaveWay_8 (by decide) (fun c8 => ?_) (fun c8 => ?_)
  · have h := ip h c8
    exact w_X11_gaveWay_25 C hR Z (lv_sub hl [] rfl) h
  · have h := im h c8
    refine lv_iload_n hx hb dX11_gaveWay_11 rfl (lv_at hl 0 rfl) ?_
    refine lv_aload_n hx hb dX11_gaveWay_12 rfl (lv_at hl 1 rfl) ?_
    refine rg_X11_192 C Z dX11_gaveWay_13 ?_
    refine lv_iload_n hx hb dX11_gaveWay_16 rfl (lv_at hl 2 rfl) ?_
    obtain ⟨v6, hv6, h⟩ := ob h
    refine g_iald C Z iaM50 hv6 dX11_gaveWay_17 ?_
    refine lv_icmp_lt (tgt := 25) hx hb dX11_gaveWay_18 (by decide) (fun c18 => ?_) (fun c18 => ?_)
    · have h := ip h c18
      exact w_X11_gaveWay_25 C hR Z (lv_sub hl [] rfl) h
    · have h := im h c18
      refine lv_iconst (v := 1) hx hb dX11_gaveWay_21 (by decide) ?_
      refine lv_goto (tgt := 26) hx hb dX11_gaveWay_22 (by decide) ?_
      obtain rfl := Option.some.inj h
      exact hR _ _ _ _ _ Z dX11_gaveWay_26 rfl
theorem k_X11_gaveWay {l : Launch} {kc : Nat → ClassId} {ad : Nat → Nat} {D : va_G} {x1 : Int32} {x2 : Int32} {σ : St} {R : Int32} (h : f_X11_gaveWay x1 x2 σ = some R) : KC eM tM kc ad D l yX11_gaveWay (.code yX11_gaveWay cX11_gaveWay 4 (some .boolean)) r_X11_gaveWay [.ref (ad 0), .int x1, .int x2] (some (.int R)) σ σ := by
  refine g_enter (by decide) (Nat.le_of_ble_eq_true rfl) ?_
  intro p e s m args below meth c A hA C hr hlocks Z ls hl
  have hl : lv_has ls 4 [(0, .ref (ad 0)), (1, .int x1), (2, .int x2)] := hl
  exact w_X11_gaveWay_0 C (g_RTi C.1.1 C.1.2.1 hr hlocks hA)  Z hl h
def r_X11_yields : Room := { frames := 3, cells := 0, slots := 0, locals := 74 }
set_option maxRecDepth 20000 in
theorem w_X11_yields_12 {p : Program} {l : Launch} {e : Env} {s : State} {m : MethodId} {args : Array Value} {below : List Frame} {meth : Method} {c : Code} {Q : State → Prop} {D : va_G} {kc : Nat → ClassId} {ad : Nat → Nat} {A : Nat → Prop} (C : Cx eM p s m args c cX11_yields 3 RX11 D kc A) {R : Int32} {x1 : Int32} {σ : St} (hR : RTi 0 0 p l e r_X11_yields s m args below meth c cX11_yields tM kc ad D A Q .int R σ) : ∀ (n : Nat) (x2 : Int32) (H : Heap) (locs : List Loc) (ls : Array Slot), Dy tM kc ad D A s.heap σ H locs → lv_has ls 3 [(0, .ref (ad 0)), (1, .int x1), (2, .int x2)] → f_X11_yields_12 x1 σ n x2 = some R → W p l e r_X11_yields s m args below meth c H locs 0 0 Q (F0 m 12 ls []) := by
  have hx := C.1.1
  have hb := C.1.2.1
  intro n
  induction n with
  | zero =>
    intro x2 H locs ls Z hl h
    exact absurd (show none = some R from h) (by simp)
  | succ n ih =>
    intro x2 H locs ls Z hl h
    rw [f_X11_yields_12] at h
    refine lv_iload_n hx hb dX11_yields_12 rfl (lv_at hl 2 rfl) ?_
    refine lv_bipush (v := 100) hx hb dX11_yields_13 (by decide) ?_
    refine lv_icmp_ge (tgt := 35) hx hb dX11_yields_15 (by decide) (fun c15 => ?_) (fun c15 => ?_)
    · have h := ip h c15
      refine lv_bipush (v := (-2)) hx hb dX11_yields_35 (by decide) ?_
      obtain rfl := Option.some.inj h
      exact hR _ _ _ _ _ Z dX11_yields_37 rfl
    · have h := im h c15
      refine lv_aload_n hx hb dX11_yields_18 rfl (lv_at hl 0 rfl) ?_
      refine lv_iload_n hx hb dX11_yields_19 rfl (lv_at hl 1 rfl) ?_
      refine lv_iload_n hx hb dX11_yields_20 rfl (lv_at hl 2 rfl) ?_
      obtain ⟨v5, hv5, h⟩ := ob h
      refine g_callVi eM_ok C Z (k_X11_gaveWay hv5) lk_X11_586 (by decide) rfl rfl hl (by decide) rfl (Nat.le_of_ble_eq_true rfl) (rest := []) rfl dX11_yields_21 (fun H locs Z => ?_)
      refine lv_if_eq (tgt := 29) hx hb dX11_yields_24 (by decide) (fun c24 => ?_) (fun c24 => ?_)
      · have h := ip h c24
        obtain ⟨v6, ev6, h⟩ := lb h
        refine lv_iinc (v := v6) (lv' := [(2, .int v6), (0, .ref (ad 0)), (1, .int x1)]) hx hb dX11_yields_29 hl (k := 2) rfl (by rw [ev6]; rfl) (by decide) rfl (fun ls hl => ?_)
        refine lv_goto (tgt := 12) hx hb dX11_yields_32 (by decide) ?_
        exact ih _ _ _ _ Z (lv_sub hl [1, 2, 0] rfl) h
      · have h := im h c24
        refine lv_iload_n hx hb dX11_yields_27 rfl (lv_at hl 2 rfl) ?_
        obtain rfl := Option.some.inj h
        exact hR _ _ _ _ _ Z dX11_yields_28 rfl
set_option maxRecDepth 20000 in
theorem w_X11_yields_0 {p : Program} {l : Launch} {e : Env} {s : State} {m : MethodId} {args : Array Value} {below : List Frame} {meth : Method} {c : Code} {Q : State → Prop} {D : va_G} {kc : Nat → ClassId} {ad : Nat → Nat} {A : Nat → Prop} (C : Cx eM p s m args c cX11_yields 3 RX11 D kc A) {R : Int32} {x1 : Int32} {σ : St} (hR : RTi 0 0 p l e r_X11_yields s m args below meth c cX11_yields tM kc ad D A Q .int R σ) {H : Heap} {locs : List Loc} {ls : Array Slot} (Z : Dy tM kc ad D A s.heap σ H locs) (hl : lv_has ls 3 [(0, .ref (ad 0)), (1, .int x1)]) (h : f_X11_yields x1 σ = some R) : W p l e r_X11_yields s m args below meth c H locs 0 0 Q (F0 m 0 ls []) := by
  have hx := C.1.1
  have hb := C.1.2.1
  unfold f_X11_yields at h
  refine lv_aload_n hx hb dX11_yields_0 rfl (lv_at hl 0 rfl) ?_
  refine lv_iload_n hx hb dX11_yields_1 rfl (lv_at hl 1 rfl) ?_
  refine g_callVi eM_ok C Z (k_X11_isTown x1 σ) lk_X11_577 (by decide) rfl rfl hl (by decide) rfl (Nat.le_of_ble_eq_true rfl) (rest := []) rfl dX11_yields_2 (fun H locs Z => ?_)
  refine lv_if_ne (tgt := 10) hx hb dX11_yields_5 (by decide) (fun c5 => ?_) (fun c5 => ?_)
  · have h := im h c5
    refine lv_iconst (v := 0) hx hb dX11_yields_10 (by decide) ?_
    refine lv_istore_n (lv' := [(2, .int 0), (0, .ref (ad 0)), (1, .int x1)]) hx hb dX11_yields_11 rfl hl (by decide) rfl (fun ls hl => ?_)
    exact w_X11_yields_12 C hR _ _ _ _ _ Z (lv_sub hl [1, 2, 0] rfl) h
  · have h := ip h c5
    refine lv_iconst (v := (-1)) hx hb dX11_yields_8 (by decide) ?_
    obtain rfl := Option.some.inj h
    exact hR _ _ _ _ _ Z dX11_yields_9 rfl
theorem k_X11_yields {l : Launch} {kc : Nat → ClassId} {ad : Nat → Nat} {D : va_G} {x1 : Int32} {σ : St} {R : Int32} (h : f_X11_yields x1 σ = some R) : KC eM tM kc ad D l yX11_yields (.code yX11_yields cX11_yields 3 (some .int)) r_X11_yields [.ref (ad 0), .int x1] (some (.int R)) σ σ := by
  refine g_enter (by decide) (Nat.le_of_ble_eq_true rfl) ?_
  intro p e s m args below meth c A hA C hr hlocks Z ls hl
  have hl : lv_has ls 3 [(0, .ref (ad 0)), (1, .int x1)] := hl
  exact w_X11_yields_0 C (g_RTi C.1.1 C.1.2.1 hr hlocks hA)  Z hl h
def r_X11_sideYields : Room := { frames := 3, cells := 0, slots := 0, locals := 74 }
set_option maxRecDepth 20000 in
theorem w_X11_sideYields_84 {p : Program} {l : Launch} {e : Env} {s : State} {m : MethodId} {args : Array Value} {below : List Frame} {meth : Method} {c : Code} {Q : State → Prop} {D : va_G} {kc : Nat → ClassId} {ad : Nat → Nat} {A : Nat → Prop} (C : Cx eM p s m args c cX11_sideYields 6 RX11 D kc A) {R : Int32} {x1 : Int32} {x2 : Int32} {x3 : Int32} {x4 : Int32} {x5 : Int32} {σ : St} (hR : RTi 0 0 p l e r_X11_sideYields s m args below meth c cX11_sideYields tM kc ad D A Q .int R σ) {k25 : Int32 → Int32 → Int32 → Option (Int32)} {k11 : Int32 → Option (Int32)} (hk25 : ∀ (x3 : Int32) (x4 : Int32) (x5 : Int32) (H : Heap) (locs : List Loc) (ls : Array Slot), Dy tM kc ad D A s.heap σ H locs → lv_has ls 6 [(0, .ref (ad 0)), (1, .int x1), (2, .int x2), (3, .int x3), (4, .int x4), (5, .int x5)] → k25 x3 x4 x5 = some R → W p l e r_X11_sideYields s m args below meth c H locs 0 0 Q (F0 m 25 ls [])) (hk11 : ∀ (x2 : Int32) (H : Heap) (locs : List Loc) (ls : Array Slot), Dy tM kc ad D A s.heap σ H locs → lv_has ls 6 [(0, .ref (ad 0)), (1, .int x1), (2, .int x2)] → k11 x2 = some R → W p l e r_X11_sideYields s m args below meth c H locs 0 0 Q (F0 m 11 ls [])) {H : Heap} {locs : List Loc} {ls : Array Slot} (Z : Dy tM kc ad D A s.heap σ H locs) (hl : lv_has ls 6 [(0, .ref (ad 0)), (1, .int x1), (2, .int x2), (3, .int x3), (4, .int x4), (5, .int x5)]) (h : f_X11_sideYields_84 x1 x2 x3 x4 x5 σ k25 k11 = some R) : W p l e r_X11_sideYields s m args below meth c H locs 0 0 Q (F0 m 84 ls []) := by
  have hx := C.1.1
  have hb := C.1.2.1
  unfold f_X11_sideYields_84 at h
  obtain ⟨v23, ev23, h⟩ := lb h
  refine lv_iinc (v := v23) (lv' := [(5, .int v23), (0, .ref (ad 0)), (1, .int x1), (2, .int x2), (3, .int x3), (4, .int x4)]) hx hb dX11_sideYields_84 hl (k := 5) rfl (by rw [ev23]; rfl) (by decide) rfl (fun ls hl => ?_)
  refine lv_goto (tgt := 25) hx hb dX11_sideYields_87 (by decide) ?_
  exact hk25 _ _ _ _ _ _ Z (lv_sub hl [1, 2, 3, 4, 5, 0] rfl) h
set_option maxRecDepth 20000 in
theorem w_X11_sideYields_81 {p : Program} {l : Launch} {e : Env} {s : State} {m : MethodId} {args : Array Value} {below : List Frame} {meth : Method} {c : Code} {Q : State → Prop} {D : va_G} {kc : Nat → ClassId} {ad : Nat → Nat} {A : Nat → Prop} (C : Cx eM p s m args c cX11_sideYields 6 RX11 D kc A) {R : Int32} {x1 : Int32} {x2 : Int32} {x3 : Int32} {x5 : Int32} {y0 : Int32} {y1 : Int32} {σ : St} (hR : RTi 0 0 p l e r_X11_sideYields s m args below meth c cX11_sideYields tM kc ad D A Q .int R σ) {k25 : Int32 → Int32 → Int32 → Option (Int32)} {k11 : Int32 → Option (Int32)} (hk25 : ∀ (x3 : Int32) (x4 : Int32) (x5 : Int32) (H : Heap) (locs : List Loc) (ls : Array Slot), Dy tM kc ad D A s.heap σ H locs → lv_has ls 6 [(0, .ref (ad 0)), (1, .int x1), (2, .int x2), (3, .int x3), (4, .int x4), (5, .int x5)] → k25 x3 x4 x5 = some R → W p l e r_X11_sideYields s m args below meth c H locs 0 0 Q (F0 m 25 ls [])) (hk11 : ∀ (x2 : Int32) (H : Heap) (locs : List Loc) (ls : Array Slot), Dy tM kc ad D A s.heap σ H locs → lv_has ls 6 [(0, .ref (ad 0)), (1, .int x1), (2, .int x2)] → k11 x2 = some R → W p l e r_X11_sideYields s m args below meth c H locs 0 0 Q (F0 m 11 ls [])) {H : Heap} {locs : List Loc} {ls : Array Slot} (Z : Dy tM kc ad D A s.heap σ H locs) (hl : lv_has ls 6 [(0, .ref (ad 0)), (1, .int x1), (2, .int x2), (3, .int x3), (5, .int x5)]) (h : f_X11_sideYields_81 x1 x2 x3 x5 y0 y1 σ k25 k11 = some R) : W p l e r_X11_sideYields s m args below meth c H locs 0 0 Q (F0 m 81 ls [.int y1, .int y0]) := by
  have hx := C.1.1
  have hb := C.1.2.1
  unfold f_X11_sideYields_81 at h
  refine lv_iadd hx hb dX11_sideYields_81 ?_
  obtain ⟨v22, ev22, h⟩ := lb h
  refine tn_i ev22 ?_
  refine lv_istore (lv' := [(4, .int v22), (0, .ref (ad 0)), (1, .int x1), (2, .int x2), (3, .int x3), (5, .int x5)]) hx hb dX11_sideYields_82 hl (by decide) rfl (fun ls hl => ?_)
  exact w_X11_sideYields_84 C hR hk25 hk11 Z (lv_sub hl [1, 2, 3, 4, 0, 5] rfl) h
set_option maxRecDepth 20000 in
theorem w_X11_sideYields_90 {p : Program} {l : Launch} {e : Env} {s : State} {m : MethodId} {args : Array Value} {below : List Frame} {meth : Method} {c : Code} {Q : State → Prop} {D : va_G} {kc : Nat → ClassId} {ad : Nat → Nat} {A : Nat → Prop} (C : Cx eM p s m args c cX11_sideYields 6 RX11 D kc A) {R : Int32} {x1 : Int32} {x2 : Int32} {x3 : Int32} {x4 : Int32} {σ : St} (hR : RTi 0 0 p l e r_X11_sideYields s m args below meth c cX11_sideYields tM kc ad D A Q .int R σ) {k11 : Int32 → Option (Int32)} (hk11 : ∀ (x2 : Int32) (H : Heap) (locs : List Loc) (ls : Array Slot), Dy tM kc ad D A s.heap σ H locs → lv_has ls 6 [(0, .ref (ad 0)), (1, .int x1), (2, .int x2)] → k11 x2 = some R → W p l e r_X11_sideYields s m args below meth c H locs 0 0 Q (F0 m 11 ls [])) {H : Heap} {locs : List Loc} {ls : Array Slot} (Z : Dy tM kc ad D A s.heap σ H locs) (hl : lv_has ls 6 [(0, .ref (ad 0)), (1, .int x1), (2, .int x2), (3, .int x3), (4, .int x4)]) (h : f_X11_sideYields_90 x1 x2 x3 x4 σ k11 = some R) : W p l e r_X11_sideYields s m args below meth c H locs 0 0 Q (F0 m 90 ls []) := by
  have hx := C.1.1
  have hb := C.1.2.1
  unfold f_X11_sideYields_90 at h
  refine lv_iconst (v := 2) hx hb dX11_sideYields_90 (by decide) ?_
  refine lv_iload hx hb dX11_sideYields_91 (lv_at hl 4 rfl) ?_
  refine lv_imul hx hb dX11_sideYields_93 ?_
  refine lv_iload_n hx hb dX11_sideYields_94 rfl (lv_at hl 3 rfl) ?_
  refine lv_icmp_le (tgt := 100) hx hb dX11_sideYields_95 (by decide) (fun c95 => ?_) (fun c95 => ?_)
  · have h := ip h c95
    obtain ⟨v24, ev24, h⟩ := lb h
    refine lv_iinc (v := v24) (lv' := [(2, .int v24), (0, .ref (ad 0)), (1, .int x1), (3, .int x3), (4, .int x4)]) hx hb dX11_sideYields_100 hl (k := 2) rfl (by rw [ev24]; rfl) (by decide) rfl (fun ls hl => ?_)
    refine lv_goto (tgt := 11) hx hb dX11_sideYields_103 (by decide) ?_
    exact hk11 _ _ _ _ Z (lv_sub hl [1, 2, 0] rfl) h
  · have h := im h c95
    refine lv_iload_n hx hb dX11_sideYields_98 rfl (lv_at hl 2 rfl) ?_
    obtain rfl := Option.some.inj h
    exact hR _ _ _ _ _ Z dX11_sideYields_99 rfl
set_option maxRecDepth 20000 in
theorem w_X11_sideYields_25 {p : Program} {l : Launch} {e : Env} {s : State} {m : MethodId} {args : Array Value} {below : List Frame} {meth : Method} {c : Code} {Q : State → Prop} {D : va_G} {kc : Nat → ClassId} {ad : Nat → Nat} {A : Nat → Prop} (C : Cx eM p s m args c cX11_sideYields 6 RX11 D kc A) {R : Int32} {x1 : Int32} {x2 : Int32} {σ : St} (hR : RTi 0 0 p l e r_X11_sideYields s m args below meth c cX11_sideYields tM kc ad D A Q .int R σ) {k11 : Int32 → Option (Int32)} (hk11 : ∀ (x2 : Int32) (H : Heap) (locs : List Loc) (ls : Array Slot), Dy tM kc ad D A s.heap σ H locs → lv_has ls 6 [(0, .ref (ad 0)), (1, .int x1), (2, .int x2)] → k11 x2 = some R → W p l e r_X11_sideYields s m args below meth c H locs 0 0 Q (F0 m 11 ls [])) : ∀ (n : Nat) (x3 : Int32) (x4 : Int32) (x5 : Int32) (H : Heap) (locs : List Loc) (ls : Array Slot), Dy tM kc ad D A s.heap σ H locs → lv_has ls 6 [(0, .ref (ad 0)), (1, .int x1), (2, .int x2), (3, .int x3), (4, .int x4), (5, .int x5)] → f_X11_sideYields_25 x1 x2 σ k11 n x3 x4 x5 = some R → W p l e r_X11_sideYields s m args below meth c H locs 0 0 Q (F0 m 25 ls []) := by
  have hx := C.1.1
  have hb := C.1.2.1
  intro n
  induction n with
  | zero =>
    intro x3 x4 x5 H locs ls Z hl h
    exact absurd (show none = some R from h) (by simp)
  | succ n ih =>
    intro x3 x4 x5 H locs ls Z hl h
    rw [f_X11_sideYields_25] at h
    refine lv_iload hx hb dX11_sideYields_25 (lv_at hl 5 rfl) ?_
    refine lv_aload_n hx hb dX11_sideYields_27 rfl (lv_at hl 0 rfl) ?_
    refine rg_X11_567 C Z dX11_sideYields_28 ?_
    refine lv_icmp_ge (tgt := 90) hx hb dX11_sideYields_31 (by decide) (fun c31 => ?_) (fun c31 => ?_)
    · have h := ip h c31
      exact w_X11_sideYields_90 C hR hk11 Z (lv_sub hl [0, 1, 2, 3, 4] rfl) h
    · have h := im h c31
      refine lv_aload_n hx hb dX11_sideYields_34 rfl (lv_at hl 0 rfl) ?_
      refine rg_X11_186 C Z dX11_sideYields_35 ?_
      refine lv_iload hx hb dX11_sideYields_38 (lv_at hl 5 rfl) ?_
      obtain ⟨v17, hv17, h⟩ := ob h
      refine g_iald C Z iaM48 hv17 dX11_sideYields_40 ?_
      refine lv_iload_n hx hb dX11_sideYields_41 rfl (lv_at hl 1 rfl) ?_
      refine lv_icmp_eq (tgt := 48) hx hb dX11_sideYields_42 (by decide) (fun c42 => ?_) (fun c42 => ?_)
      · have h := ip h c42
        refine lv_iload_n hx hb dX11_sideYields_48 rfl (lv_at hl 3 rfl) ?_
        refine lv_aload_n hx hb dX11_sideYields_49 rfl (lv_at hl 0 rfl) ?_
        refine rg_X11_189 C Z dX11_sideYields_50 ?_
        refine lv_iload hx hb dX11_sideYields_53 (lv_at hl 5 rfl) ?_
        obtain ⟨v18, hv18, h⟩ := ob h
        refine g_iald C Z iaM49 hv18 dX11_sideYields_55 ?_
        refine lv_iadd hx hb dX11_sideYields_56 ?_
        obtain ⟨v19, ev19, h⟩ := lb h
        refine tn_i ev19 ?_
        refine lv_istore_n (lv' := [(3, .int v19), (0, .ref (ad 0)), (1, .int x1), (2, .int x2), (4, .int x4), (5, .int x5)]) hx hb dX11_sideYields_57 rfl hl (by decide) rfl (fun ls hl => ?_)
        refine lv_iload hx hb dX11_sideYields_58 (lv_at hl 4 rfl) ?_
        refine lv_aload_n hx hb dX11_sideYields_60 rfl (lv_at hl 1 rfl) ?_
        refine lv_iload hx hb dX11_sideYields_61 (lv_at hl 5 rfl) ?_
        refine lv_iload_n hx hb dX11_sideYields_63 rfl (lv_at hl 3 rfl) ?_
        obtain ⟨v20, hv20, h⟩ := ob h
        refine g_callVi eM_ok C Z (k_X11_gaveWay hv20) lk_X11_586 (by decide) rfl rfl hl (by decide) rfl (Nat.le_of_ble_eq_true rfl) (rest := [.int x4]) rfl dX11_sideYields_64 (fun H locs Z => ?_)
        refine lv_if_eq (tgt := 80) hx hb dX11_sideYields_67 (by decide) (fun c67 => ?_) (fun c67 => ?_)
        · have h := ip h c67
          refine lv_iconst (v := 0) hx hb dX11_sideYields_80 (by decide) ?_
          exact w_X11_sideYields_81 C hR ih hk11 Z (lv_sub hl [1, 2, 3, 0, 5] rfl) h
        · have h := im h c67
          refine lv_aload_n hx hb dX11_sideYields_70 rfl (lv_at hl 1 rfl) ?_
          refine rg_X11_189 C Z dX11_sideYields_71 ?_
          refine lv_iload hx hb dX11_sideYields_74 (lv_at hl 5 rfl) ?_
          obtain ⟨v21, hv21, h⟩ := ob h
          refine g_iald C Z iaM49 hv21 dX11_sideYields_76 ?_
          refine lv_goto (tgt := 81) hx hb dX11_sideYields_77 (by decide) ?_
          exact w_X11_sideYields_81 C hR ih hk11 Z (lv_sub hl [1, 2, 3, 0, 5] rfl) h
      · have h := im h c42
        refine lv_goto (tgt := 84) hx hb dX11_sideYields_45 (by decide) ?_
        exact w_X11_sideYields_84 C hR ih hk11 Z (lv_sub hl [0, 1, 2, 3, 4, 5] rfl) h
set_option maxRecDepth 20000 in
theorem w_X11_sideYields_11 {p : Program} {l : Launch} {e : Env} {s : State} {m : MethodId} {args : Array Value} {below : List Frame} {meth : Method} {c : Code} {Q : State → Prop} {D : va_G} {kc : Nat → ClassId} {ad : Nat → Nat} {A : Nat → Prop} (C : Cx eM p s m args c cX11_sideYields 6 RX11 D kc A) {R : Int32} {x1 : Int32} {σ : St} (hR : RTi 0 0 p l e r_X11_sideYields s m args below meth c cX11_sideYields tM kc ad D A Q .int R σ) : ∀ (n : Nat) (x2 : Int32) (H : Heap) (locs : List Loc) (ls : Array Slot), Dy tM kc ad D A s.heap σ H locs → lv_has ls 6 [(0, .ref (ad 0)), (1, .int x1), (2, .int x2)] → f_X11_sideYields_11 x1 σ n x2 = some R → W p l e r_X11_sideYields s m args below meth c H locs 0 0 Q (F0 m 11 ls []) := by
  have hx := C.1.1
  have hb := C.1.2.1
  intro n
  induction n with
  | zero =>
    intro x2 H locs ls Z hl h
    exact absurd (show none = some R from h) (by simp)
  | succ n ih =>
    intro x2 H locs ls Z hl h
    rw [f_X11_sideYields_11] at h
    refine lv_iload_n hx hb dX11_sideYields_11 rfl (lv_at hl 2 rfl) ?_
    refine lv_bipush (v := 100) hx hb dX11_sideYields_12 (by decide) ?_
    refine lv_icmp_ge (tgt := 106) hx hb dX11_sideYields_14 (by decide) (fun c14 => ?_) (fun c14 => ?_)
    · have h := ip h c14
      refine lv_bipush (v := (-2)) hx hb dX11_sideYields_106 (by decide) ?_
      obtain rfl := Option.some.inj h
      exact hR _ _ _ _ _ Z dX11_sideYields_108 rfl
    · have h := im h c14
      refine lv_iconst (v := 0) hx hb dX11_sideYields_17 (by decide) ?_
      refine lv_istore_n (lv' := [(3, .int 0), (0, .ref (ad 0)), (1, .int x1), (2, .int x2)]) hx hb dX11_sideYields_18 rfl hl (by decide) rfl (fun ls hl => ?_)
      refine lv_iconst (v := 0) hx hb dX11_sideYields_19 (by decide) ?_
      refine lv_istore (lv' := [(4, .int 0), (3, .int 0), (0, .ref (ad 0)), (1, .int x1), (2, .int x2)]) hx hb dX11_sideYields_20 hl (by decide) rfl (fun ls hl => ?_)
      refine lv_iconst (v := 0) hx hb dX11_sideYields_22 (by decide) ?_
      refine lv_istore (lv' := [(5, .int 0), (4, .int 0), (3, .int 0), (0, .ref (ad 0)), (1, .int x1), (2, .int x2)]) hx hb dX11_sideYields_23 hl (by decide) rfl (fun ls hl => ?_)
      exact w_X11_sideYields_25 C hR ih _ _ _ _ _ _ _ Z (lv_sub hl [3, 4, 5, 2, 1, 0] rfl) h
set_option maxRecDepth 20000 in
theorem w_X11_sideYields_0 {p : Program} {l : Launch} {e : Env} {s : State} {m : MethodId} {args : Array Value} {below : List Frame} {meth : Method} {c : Code} {Q : State → Prop} {D : va_G} {kc : Nat → ClassId} {ad : Nat → Nat} {A : Nat → Prop} (C : Cx eM p s m args c cX11_sideYields 6 RX11 D kc A) {R : Int32} {x1 : Int32} {σ : St} (hR : RTi 0 0 p l e r_X11_sideYields s m args below meth c cX11_sideYields tM kc ad D A Q .int R σ) {H : Heap} {locs : List Loc} {ls : Array Slot} (Z : Dy tM kc ad D A s.heap σ H locs) (hl : lv_has ls 6 [(0, .ref (ad 0)), (1, .int x1)]) (h : f_X11_sideYields x1 σ = some R) : W p l e r_X11_sideYields s m args below meth c H locs 0 0 Q (F0 m 0 ls []) := by
  have hx := C.1.1
  have hb := C.1.2.1
  unfold f_X11_sideYields at h
  refine lv_iload_n hx hb dX11_sideYields_0 rfl (lv_at hl 1 rfl) ?_
  refine g_callSi eM_ok C Z (k_X11_isSide x1 σ) lk_X11_251 hl (by decide) rfl (Nat.le_of_ble_eq_true rfl) (rest := []) rfl dX11_sideYields_1 (fun H locs Z => ?_)
  refine lv_if_ne (tgt := 9) hx hb dX11_sideYields_4 (by decide) (fun c4 => ?_) (fun c4 => ?_)
  · have h := im h c4
    refine lv_iconst (v := 0) hx hb dX11_sideYields_9 (by decide) ?_
    refine lv_istore_n (lv' := [(2, .int 0), (0, .ref (ad 0)), (1, .int x1)]) hx hb dX11_sideYields_10 rfl hl (by decide) rfl (fun ls hl => ?_)
    exact w_X11_sideYields_11 C hR _ _ _ _ _ Z (lv_sub hl [1, 2, 0] rfl) h
  · have h := ip h c4
    refine lv_iconst (v := (-1)) hx hb dX11_sideYields_7 (by decide) ?_
    obtain rfl := Option.some.inj h
    exact hR _ _ _ _ _ Z dX11_sideYields_8 rfl
theorem k_X11_sideYields {l : Launch} {kc : Nat → ClassId} {ad : Nat → Nat} {D : va_G} {x1 : Int32} {σ : St} {R : Int32} (h : f_X11_sideYields x1 σ = some R) : KC eM tM kc ad D l yX11_sideYields (.code yX11_sideYields cX11_sideYields 6 (some .int)) r_X11_sideYields [.ref (ad 0), .int x1] (some (.int R)) σ σ := by
  refine g_enter (by decide) (Nat.le_of_ble_eq_true rfl) ?_
  intro p e s m args below meth c A hA C hr hlocks Z ls hl
  have hl : lv_has ls 6 [(0, .ref (ad 0)), (1, .int x1)] := hl
  exact w_X11_sideYields_0 C (g_RTi C.1.1 C.1.2.1 hr hlocks hA)  Z hl h
def r_X11_term : Room := { frames := 1, cells := 0, slots := 0, locals := 25 }
set_option maxRecDepth 20000 in
theorem w_X11_term_0 {p : Program} {l : Launch} {e : Env} {s : State} {m : MethodId} {args : Array Value} {below : List Frame} {meth : Method} {c : Code} {Q : State → Prop} {D : va_G} {kc : Nat → ClassId} {ad : Nat → Nat} {A : Nat → Prop} (C : Cx eM p s m args c cX11_term 3 RX11 D kc A) {R : Int32 × St} {x1 : Int32} {x2 : Int32} {σ : St} (hR : RTi 0 0 p l e r_X11_term s m args below meth c cX11_term tM kc ad D A Q .int R.1 R.2) {H : Heap} {locs : List Loc} {ls : Array Slot} (Z : Dy tM kc ad D A s.heap σ H locs) (hl : lv_has ls 3 [(0, .ref (ad 0)), (1, .int x1), (2, .int x2)]) (h : f_X11_term x1 x2 σ = some R) : W p l e r_X11_term s m args below meth c H locs 0 0 Q (F0 m 0 ls []) := by
  have hx := C.1.1
  have hb := C.1.2.1
  unfold f_X11_term at h
  refine lv_aload_n hx hb dX11_term_0 rfl (lv_at hl 0 rfl) ?_
  refine rg_X11_589 C Z dX11_term_1 ?_
  refine lv_bipush (v := 9) hx hb dX11_term_4 (by decide) ?_
  refine lv_icmp_eq (tgt := 37) hx hb dX11_term_6 (by decide) (fun c6 => ?_) (fun c6 => ?_)
  · have h := ip h c6
    refine lv_iconst (v := (-1)) hx hb dX11_term_37 (by decide) ?_
    obtain rfl := Option.some.inj h
    exact hR _ _ _ _ _ Z dX11_term_38 rfl
  · have h := im h c6
    refine lv_iload_n hx hb dX11_term_9 rfl (lv_at hl 1 rfl) ?_
    refine lv_i2l (v := x1.toInt64) hx hb dX11_term_10 rfl ?_
    refine lv_ldc2 (v := (-9999)) hx hb C.1.2.2.2.1 (C.1.2.2.2.2 _ wDL_X11_592) dX11_term_11 ?_
    refine lv_ldc2 (v := 9999) hx hb C.1.2.2.2.1 (C.1.2.2.2.2 _ wDL_X11_570) dX11_term_14 ?_
    refine g_callSi eM_ok C Z (k_X11_in x1.toInt64 (-9999) 9999 σ) lk_X11_233 hl (by decide) rfl (Nat.le_of_ble_eq_true rfl) (rest := []) rfl dX11_term_17 (fun H locs Z => ?_)
    refine lv_if_eq (tgt := 37) hx hb dX11_term_20 (by decide) (fun c20 => ?_) (fun c20 => ?_)
    · have h := ip h c20
      refine lv_iconst (v := (-1)) hx hb dX11_term_37 (by decide) ?_
      obtain rfl := Option.some.inj h
      exact hR _ _ _ _ _ Z dX11_term_38 rfl
    · have h := im h c20
      refine lv_iload_n hx hb dX11_term_23 rfl (lv_at hl 2 rfl) ?_
      refine lv_i2l (v := x2.toInt64) hx hb dX11_term_24 rfl ?_
      refine lv_ldc2 (v := (-9999)) hx hb C.1.2.2.2.1 (C.1.2.2.2.2 _ wDL_X11_592) dX11_term_25 ?_
      refine lv_ldc2 (v := 9999) hx hb C.1.2.2.2.1 (C.1.2.2.2.2 _ wDL_X11_570) dX11_term_28 ?_
      refine g_callSi eM_ok C Z (k_X11_in x2.toInt64 (-9999) 9999 σ) lk_X11_233 hl (by decide) rfl (Nat.le_of_ble_eq_true rfl) (rest := []) rfl dX11_term_31 (fun H locs Z => ?_)
      refine lv_if_ne (tgt := 39) hx hb dX11_term_34 (by decide) (fun c34 => ?_) (fun c34 => ?_)
      · have h := im h c34
        refine lv_aload_n hx hb dX11_term_39 rfl (lv_at hl 0 rfl) ?_
        refine rg_X11_207 C Z dX11_term_40 ?_
        refine lv_aload_n hx hb dX11_term_43 rfl (lv_at hl 0 rfl) ?_
        refine rg_X11_589 C Z dX11_term_44 ?_
        refine lv_iload_n hx hb dX11_term_47 rfl (lv_at hl 1 rfl) ?_
        obtain ⟨σ7, hσ7, h⟩ := ob h
        refine g_iast C Z iaM55 hσ7 dX11_term_48 (fun H locs Z => ?_)
        refine lv_aload_n hx hb dX11_term_49 rfl (lv_at hl 0 rfl) ?_
        refine rg_X11_210 C Z dX11_term_50 ?_
        refine lv_aload_n hx hb dX11_term_53 rfl (lv_at hl 0 rfl) ?_
        refine rg_X11_589 C Z dX11_term_54 ?_
        refine lv_iload_n hx hb dX11_term_57 rfl (lv_at hl 2 rfl) ?_
        obtain ⟨σ8, hσ8, h⟩ := ob h
        refine g_iast C Z iaM56 hσ8 dX11_term_58 (fun H locs Z => ?_)
        refine lv_aload_n hx hb dX11_term_59 rfl (lv_at hl 0 rfl) ?_
        refine lv_dup hx hb dX11_term_60 rfl ?_
        refine rg_X11_589 C Z dX11_term_61 ?_
        refine lv_iconst (v := 1) hx hb dX11_term_64 (by decide) ?_
        refine lv_iadd hx hb dX11_term_65 ?_
        obtain ⟨σ9, eσ9, h⟩ := lb h
        refine rp_X11_589 C Z eσ9 dX11_term_66 (fun H locs Z => ?_)
        refine lv_aload_n hx hb dX11_term_69 rfl (lv_at hl 0 rfl) ?_
        refine rg_X11_589 C Z dX11_term_70 ?_
        refine lv_iconst (v := 1) hx hb dX11_term_73 (by decide) ?_
        refine lv_isub hx hb dX11_term_74 ?_
        obtain rfl := Option.some.inj h
        exact hR _ _ _ _ _ Z dX11_term_75 rfl
      · have h := ip h c34
        refine lv_iconst (v := (-1)) hx hb dX11_term_37 (by decide) ?_
        obtain rfl := Option.some.inj h
        exact hR _ _ _ _ _ Z dX11_term_38 rfl
theorem k_X11_term {l : Launch} {kc : Nat → ClassId} {ad : Nat → Nat} {D : va_G} {x1 : Int32} {x2 : Int32} {σ : St} {R : Int32 × St} (h : f_X11_term x1 x2 σ = some R) : KC eM tM kc ad D l yX11_term (.code yX11_term cX11_term 3 (some .int)) r_X11_term [.ref (ad 0), .int x1, .int x2] (some (.int R.1)) σ R.2 := by
  refine g_enter (by decide) (Nat.le_of_ble_eq_true rfl) ?_
  intro p e s m args below meth c A hA C hr hlocks Z ls hl
  have hl : lv_has ls 3 [(0, .ref (ad 0)), (1, .int x1), (2, .int x2)] := hl
  exact w_X11_term_0 C (g_RTi C.1.1 C.1.2.1 hr hlocks hA)  Z hl h
def r_X11_sign : Room := { frames := 1, cells := 0, slots := 0, locals := 25 }
set_option maxRecDepth 20000 in
theorem w_X11_sign_114 {p : Program} {l : Launch} {e : Env} {s : State} {m : MethodId} {args : Array Value} {below : List Frame} {meth : Method} {c : Code} {Q : State → Prop} {D : va_G} {kc : Nat → ClassId} {ad : Nat → Nat} {A : Nat → Prop} (C : Cx eM p s m args c cX11_sign 11 RX11 D kc A) {R : Int32} {x1 : Int32} {x2 : Int32} {x3 : Int32} {x4 : Int32} {x5 : Int32} {x6 : Int32} {x7 : Int32} {x8 : Int32} {x9 : Int32} {x10 : Int32} {σ : St} (hR : RTi 0 0 p l e r_X11_sign s m args below meth c cX11_sign tM kc ad D A Q .int R σ) {k65 : Int32 → Int32 → Int32 → Int32 → Option (Int32)} {k42 : Int32 → Int32 → Int32 → Int32 → Option (Int32)} (hk65 : ∀ (x7 : Int32) (x8 : Int32) (x9 : Int32) (x10 : Int32) (H : Heap) (locs : List Loc) (ls : Array Slot), Dy tM kc ad D A s.heap σ H locs → lv_has ls 11 [(0, .ref (ad 0)), (1, .int x1), (2, .int x2), (3, .int x3), (4, .int x4), (5, .int x5), (6, .int x6), (7, .int x7), (8, .int x8), (9, .int x9), (10, .int x10)] → k65 x7 x8 x9 x10 = some R → W p l e r_X11_sign s m args below meth c H locs 0 0 Q (F0 m 65 ls [])) (hk42 : ∀ (x3 : Int32) (x4 : Int32) (x5 : Int32) (x6 : Int32) (H : Heap) (locs : List Loc) (ls : Array Slot), Dy tM kc ad D A s.heap σ H locs → lv_has ls 11 [(0, .ref (ad 0)), (1, .int x1), (2, .int x2), (3, .int x3), (4, .int x4), (5, .int x5), (6, .int x6)] → k42 x3 x4 x5 x6 = some R → W p l e r_X11_sign s m args below meth c H locs 0 0 Q (F0 m 42 ls [])) {H : Heap} {locs : List Loc} {ls : Array Slot} (Z : Dy tM kc ad D A s.heap σ H locs) (hl : lv_has ls 11 [(0, .ref (ad 0)), (1, .int x1), (2, .int x2), (3, .int x3), (4, .int x4), (5, .int x5), (6, .int x6), (7, .int x7), (8, .int x8), (9, .int x9), (10, .int x10)]) (h : f_X11_sign_114 x1 x2 x3 x4 x5 x6 x7 x8 x9 x10 σ k65 k42 = some R) : W p l e r_X11_sign s m args below meth c H locs 0 0 Q (F0 m 114 ls []) := by
  have hx := C.1.1
  have hb := C.1.2.1
  unfold f_X11_sign_114 at h
  obtain ⟨v22, ev22, h⟩ := lb h
  refine lv_iinc (v := v22) (lv' := [(10, .int v22), (0, .ref (ad 0)), (1, .int x1), (2, .int x2), (3, .int x3), (4, .int x4), (5, .int x5), (6, .int x6), (7, .int x7), (8, .int x8), (9, .int x9)]) hx hb dX11_sign_114 hl (k := 10) rfl (by rw [ev22]; rfl) (by decide) rfl (fun ls hl => ?_)
  refine lv_goto (tgt := 65) hx hb dX11_sign_117 (by decide) ?_
  exact hk65 _ _ _ _ _ _ _ Z (lv_sub hl [1, 2, 3, 4, 5, 6, 7, 8, 9, 10, 0] rfl) h
set_option maxRecDepth 20000 in
theorem w_X11_sign_181 {p : Program} {l : Launch} {e : Env} {s : State} {m : MethodId} {args : Array Value} {below : List Frame} {meth : Method} {c : Code} {Q : State → Prop} {D : va_G} {kc : Nat → ClassId} {ad : Nat → Nat} {A : Nat → Prop} (C : Cx eM p s m args c cX11_sign 11 RX11 D kc A) {R : Int32} {x1 : Int32} {x2 : Int32} {x3 : Int32} {x4 : Int32} {x5 : Int32} {x6 : Int32} {σ : St} (hR : RTi 0 0 p l e r_X11_sign s m args below meth c cX11_sign tM kc ad D A Q .int R σ) {k42 : Int32 → Int32 → Int32 → Int32 → Option (Int32)} (hk42 : ∀ (x3 : Int32) (x4 : Int32) (x5 : Int32) (x6 : Int32) (H : Heap) (locs : List Loc) (ls : Array Slot), Dy tM kc ad D A s.heap σ H locs → lv_has ls 11 [(0, .ref (ad 0)), (1, .int x1), (2, .int x2), (3, .int x3), (4, .int x4), (5, .int x5), (6, .int x6)] → k42 x3 x4 x5 x6 = some R → W p l e r_X11_sign s m args below meth c H locs 0 0 Q (F0 m 42 ls [])) {H : Heap} {locs : List Loc} {ls : Array Slot} (Z : Dy tM kc ad D A s.heap σ H locs) (hl : lv_has ls 11 [(0, .ref (ad 0)), (1, .int x1), (2, .int x2), (3, .int x3), (4, .int x4), (5, .int x5), (6, .int x6)]) (h : f_X11_sign_181 x1 x2 x3 x4 x5 x6 σ k42 = some R) : W p l e r_X11_sign s m args below meth c H locs 0 0 Q (F0 m 181 ls []) := by
  have hx := C.1.1
  have hb := C.1.2.1
  unfold f_X11_sign_181 at h
  obtain ⟨v24, ev24, h⟩ := lb h
  refine lv_iinc (v := v24) (lv' := [(6, .int v24), (0, .ref (ad 0)), (1, .int x1), (2, .int x2), (3, .int x3), (4, .int x4), (5, .int x5)]) hx hb dX11_sign_181 hl (k := 6) rfl (by rw [ev24]; rfl) (by decide) rfl (fun ls hl => ?_)
  refine lv_goto (tgt := 42) hx hb dX11_sign_184 (by decide) ?_
  exact hk42 _ _ _ _ _ _ _ Z (lv_sub hl [1, 2, 3, 4, 5, 6, 0] rfl) h
set_option maxRecDepth 20000 in
theorem w_X11_sign_170 {p : Program} {l : Launch} {e : Env} {s : State} {m : MethodId} {args : Array Value} {below : List Frame} {meth : Method} {c : Code} {Q : State → Prop} {D : va_G} {kc : Nat → ClassId} {ad : Nat → Nat} {A : Nat → Prop} (C : Cx eM p s m args c cX11_sign 11 RX11 D kc A) {R : Int32} {x1 : Int32} {x2 : Int32} {x6 : Int32} {x7 : Int32} {x10 : Int32} {σ : St} (hR : RTi 0 0 p l e r_X11_sign s m args below meth c cX11_sign tM kc ad D A Q .int R σ) {k42 : Int32 → Int32 → Int32 → Int32 → Option (Int32)} (hk42 : ∀ (x3 : Int32) (x4 : Int32) (x5 : Int32) (x6 : Int32) (H : Heap) (locs : List Loc) (ls : Array Slot), Dy tM kc ad D A s.heap σ H locs → lv_has ls 11 [(0, .ref (ad 0)), (1, .int x1), (2, .int x2), (3, .int x3), (4, .int x4), (5, .int x5), (6, .int x6)] → k42 x3 x4 x5 x6 = some R → W p l e r_X11_sign s m args below meth c H locs 0 0 Q (F0 m 42 ls [])) {H : Heap} {locs : List Loc} {ls : Array Slot} (Z : Dy tM kc ad D A s.heap σ H locs) (hl : lv_has ls 11 [(0, .ref (ad 0)), (1, .int x1), (2, .int x2), (6, .int x6), (7, .int x7), (10, .int x10)]) (h : f_X11_sign_170 x1 x2 x6 x7 x10 σ k42 = some R) : W p l e r_X11_sign s m args below meth c H locs 0 0 Q (F0 m 170 ls []) := by
  have hx := C.1.1
  have hb := C.1.2.1
  unfold f_X11_sign_170 at h
  refine lv_iload hx hb dX11_sign_170 (lv_at hl 3 rfl) ?_
  refine lv_istore_n (lv' := [(3, .int x6), (0, .ref (ad 0)), (1, .int x1), (2, .int x2), (6, .int x6), (7, .int x7), (10, .int x10)]) hx hb dX11_sign_172 rfl hl (by decide) rfl (fun ls hl => ?_)
  refine lv_iload hx hb dX11_sign_173 (lv_at hl 5 rfl) ?_
  refine lv_istore (lv' := [(4, .int x7), (3, .int x6), (0, .ref (ad 0)), (1, .int x1), (2, .int x2), (6, .int x6), (7, .int x7), (10, .int x10)]) hx hb dX11_sign_175 hl (by decide) rfl (fun ls hl => ?_)
  refine lv_iload hx hb dX11_sign_177 (lv_at hl 7 rfl) ?_
  refine lv_istore (lv' := [(5, .int x10), (4, .int x7), (3, .int x6), (0, .ref (ad 0)), (1, .int x1), (2, .int x2), (6, .int x6), (7, .int x7), (10, .int x10)]) hx hb dX11_sign_179 hl (by decide) rfl (fun ls hl => ?_)
  exact w_X11_sign_181 C hR hk42 Z (lv_sub hl [3, 4, 5, 2, 1, 0, 6] rfl) h
set_option maxRecDepth 20000 in
theorem w_X11_sign_120 {p : Program} {l : Launch} {e : Env} {s : State} {m : MethodId} {args : Array Value} {below : List Frame} {meth : Method} {c : Code} {Q : State → Prop} {D : va_G} {kc : Nat → ClassId} {ad : Nat → Nat} {A : Nat → Prop} (C : Cx eM p s m args c cX11_sign 11 RX11 D kc A) {R : Int32} {x1 : Int32} {x2 : Int32} {x3 : Int32} {x4 : Int32} {x5 : Int32} {x6 : Int32} {x7 : Int32} {x8 : Int32} {x9 : Int32} {σ : St} (hR : RTi 0 0 p l e r_X11_sign s m args below meth c cX11_sign tM kc ad D A Q .int R σ) {k42 : Int32 → Int32 → Int32 → Int32 → Option (Int32)} (hk42 : ∀ (x3 : Int32) (x4 : Int32) (x5 : Int32) (x6 : Int32) (H : Heap) (locs : List Loc) (ls : Array Slot), Dy tM kc ad D A s.heap σ H locs → lv_has ls 11 [(0, .ref (ad 0)), (1, .int x1), (2, .int x2), (3, .int x3), (4, .int x4), (5, .int x5), (6, .int x6)] → k42 x3 x4 x5 x6 = some R → W p l e r_X11_sign s m args below meth c H locs 0 0 Q (F0 m 42 ls [])) {H : Heap} {locs : List Loc} {ls : Array Slot} (Z : Dy tM kc ad D A s.heap σ H locs) (hl : lv_has ls 11 [(0, .ref (ad 0)), (1, .int x1), (2, .int x2), (3, .int x3), (4, .int x4), (5, .int x5), (6, .int x6), (7, .int x7), (8, .int x8), (9, .int x9)]) (h : f_X11_sign_120 x1 x2 x3 x4 x5 x6 x7 x8 x9 σ k42 = some R) : W p l e r_X11_sign s m args below meth c H locs 0 0 Q (F0 m 120 ls []) := by
  have hx := C.1.1
  have hb := C.1.2.1
  unfold f_X11_sign_120 at h
  refine lv_iload hx hb dX11_sign_120 (lv_at hl 8 rfl) ?_
  refine lv_iload hx hb dX11_sign_122 (lv_at hl 9 rfl) ?_
  refine lv_isub hx hb dX11_sign_124 ?_
  refine g_callSi eM_ok C Z (k_X11_without (x8 - x9) σ) lk_X11_274 hl (by decide) rfl (Nat.le_of_ble_eq_true rfl) (rest := []) rfl dX11_sign_125 (fun H locs Z => ?_)
  obtain ⟨v23, ev23, h⟩ := lb h
  refine tn_i ev23 ?_
  refine lv_istore (lv' := [(10, .int v23), (0, .ref (ad 0)), (1, .int x1), (2, .int x2), (3, .int x3), (4, .int x4), (5, .int x5), (6, .int x6), (7, .int x7), (8, .int x8), (9, .int x9)]) hx hb dX11_sign_128 hl (by decide) rfl (fun ls hl => ?_)
  refine lv_iload hx hb dX11_sign_130 (lv_at hl 9 rfl) ?_
  refine lv_iload_n hx hb dX11_sign_132 rfl (lv_at hl 2 rfl) ?_
  refine lv_icmp_lt (tgt := 181) hx hb dX11_sign_133 (by decide) (fun c133 => ?_) (fun c133 => ?_)
  · have h := ip h c133
    exact w_X11_sign_181 C hR hk42 Z (lv_sub hl [1, 2, 3, 4, 5, 6, 7] rfl) h
  · have h := im h c133
    refine lv_iload hx hb dX11_sign_136 (lv_at hl 10 rfl) ?_
    refine lv_iload_n hx hb dX11_sign_138 rfl (lv_at hl 3 rfl) ?_
    refine lv_icmp_lt (tgt := 181) hx hb dX11_sign_139 (by decide) (fun c139 => ?_) (fun c139 => ?_)
    · have h := ip h c139
      exact w_X11_sign_181 C hR hk42 Z (lv_sub hl [1, 2, 3, 4, 5, 6, 7] rfl) h
    · have h := im h c139
      refine lv_iload_n hx hb dX11_sign_142 rfl (lv_at hl 4 rfl) ?_
      refine lv_if_lt (tgt := 170) hx hb dX11_sign_143 (by decide) (fun c143 => ?_) (fun c143 => ?_)
      · have h := ip h c143
        exact w_X11_sign_170 C hR hk42 Z (lv_sub hl [1, 2, 3, 7, 8, 0] rfl) h
      · have h := im h c143
        refine lv_iload hx hb dX11_sign_146 (lv_at hl 8 rfl) ?_
        refine lv_iload hx hb dX11_sign_148 (lv_at hl 5 rfl) ?_
        refine lv_icmp_gt (tgt := 181) hx hb dX11_sign_150 (by decide) (fun c150 => ?_) (fun c150 => ?_)
        · have h := ip h c150
          exact w_X11_sign_181 C hR hk42 Z (lv_sub hl [1, 2, 3, 4, 5, 6, 7] rfl) h
        · have h := im h c150
          refine lv_iload hx hb dX11_sign_153 (lv_at hl 8 rfl) ?_
          refine lv_iload hx hb dX11_sign_155 (lv_at hl 5 rfl) ?_
          refine lv_icmp_ne (tgt := 170) hx hb dX11_sign_157 (by decide) (fun c157 => ?_) (fun c157 => ?_)
          · have h := im h c157
            exact w_X11_sign_170 C hR hk42 Z (lv_sub hl [1, 2, 3, 7, 8, 0] rfl) h
          · have h := ip h c157
            refine lv_iload hx hb dX11_sign_160 (lv_at hl 0 rfl) ?_
            refine lv_iload hx hb dX11_sign_162 (lv_at hl 6 rfl) ?_
            refine lv_icmp_lt (tgt := 170) hx hb dX11_sign_164 (by decide) (fun c164 => ?_) (fun c164 => ?_)
            · have h := ip h c164
              exact w_X11_sign_170 C hR hk42 Z (lv_sub hl [1, 2, 3, 7, 8, 0] rfl) h
            · have h := im h c164
              refine lv_goto (tgt := 181) hx hb dX11_sign_167 (by decide) ?_
              exact w_X11_sign_181 C hR hk42 Z (lv_sub hl [1, 2, 3, 4, 5, 6, 7] rfl) h
set_option maxRecDepth 20000 in
theorem w_X11_sign_65 {p : Program} {l : Launch} {e : Env} {s : State} {m : MethodId} {args : Array Value} {below : List Frame} {meth : Method} {c : Code} {Q : State → Prop} {D : va_G} {kc : Nat → ClassId} {ad : Nat → Nat} {A : Nat → Prop} (C : Cx eM p s m args c cX11_sign 11 RX11 D kc A) {R : Int32} {x1 : Int32} {x2 : Int32} {x3 : Int32} {x4 : Int32} {x5 : Int32} {x6 : Int32} {σ : St} (hR : RTi 0 0 p l e r_X11_sign s m args below meth c cX11_sign tM kc ad D A Q .int R σ) {k42 : Int32 → Int32 → Int32 → Int32 → Option (Int32)} (hk42 : ∀ (x3 : Int32) (x4 : Int32) (x5 : Int32) (x6 : Int32) (H : Heap) (locs : List Loc) (ls : Array Slot), Dy tM kc ad D A s.heap σ H locs → lv_has ls 11 [(0, .ref (ad 0)), (1, .int x1), (2, .int x2), (3, .int x3), (4, .int x4), (5, .int x5), (6, .int x6)] → k42 x3 x4 x5 x6 = some R → W p l e r_X11_sign s m args below meth c H locs 0 0 Q (F0 m 42 ls [])) : ∀ (n : Nat) (x7 : Int32) (x8 : Int32) (x9 : Int32) (x10 : Int32) (H : Heap) (locs : List Loc) (ls : Array Slot), Dy tM kc ad D A s.heap σ H locs → lv_has ls 11 [(0, .ref (ad 0)), (1, .int x1), (2, .int x2), (3, .int x3), (4, .int x4), (5, .int x5), (6, .int x6), (7, .int x7), (8, .int x8), (9, .int x9), (10, .int x10)] → f_X11_sign_65 x1 x2 x3 x4 x5 x6 σ k42 n x7 x8 x9 x10 = some R → W p l e r_X11_sign s m args below meth c H locs 0 0 Q (F0 m 65 ls []) := by
  have hx := C.1.1
  have hb := C.1.2.1
  intro n
  induction n with
  | zero =>
    intro x7 x8 x9 x10 H locs ls Z hl h
    exact absurd (show none = some R from h) (by simp)
  | succ n ih =>
    intro x7 x8 x9 x10 H locs ls Z hl h
    rw [f_X11_sign_65] at h
    refine lv_iload hx hb dX11_sign_65 (lv_at hl 10 rfl) ?_
    refine lv_aload_n hx hb dX11_sign_67 rfl (lv_at hl 0 rfl) ?_
    refine rg_X11_589 C Z dX11_sign_68 ?_
    refine lv_icmp_ge (tgt := 120) hx hb dX11_sign_71 (by decide) (fun c71 => ?_) (fun c71 => ?_)
    · have h := ip h c71
      exact w_X11_sign_120 C hR hk42 Z (lv_sub hl [0, 1, 2, 3, 4, 5, 6, 7, 8, 9] rfl) h
    · have h := im h c71
      refine lv_iload hx hb dX11_sign_74 (lv_at hl 6 rfl) ?_
      refine lv_iload hx hb dX11_sign_76 (lv_at hl 10 rfl) ?_
      refine lv_ishr hx hb dX11_sign_78 ?_
      refine lv_iconst (v := 1) hx hb dX11_sign_79 (by decide) ?_
      refine lv_iand hx hb dX11_sign_80 ?_
      refine lv_if_ne (tgt := 87) hx hb dX11_sign_81 (by decide) (fun c81 => ?_) (fun c81 => ?_)
      · have h := im h c81
        obtain ⟨v17, ev17, h⟩ := lb h
        refine lv_iinc (v := v17) (lv' := [(7, .int v17), (0, .ref (ad 0)), (1, .int x1), (2, .int x2), (3, .int x3), (4, .int x4), (5, .int x5), (6, .int x6), (8, .int x8), (9, .int x9), (10, .int x10)]) hx hb dX11_sign_87 hl (k := 7) rfl (by rw [ev17]; rfl) (by decide) rfl (fun ls hl => ?_)
        refine lv_iload hx hb dX11_sign_90 (lv_at hl 8 rfl) ?_
        refine lv_aload_n hx hb dX11_sign_92 rfl (lv_at hl 1 rfl) ?_
        refine rg_X11_207 C Z dX11_sign_93 ?_
        refine lv_iload hx hb dX11_sign_96 (lv_at hl 10 rfl) ?_
        obtain ⟨v18, hv18, h⟩ := ob h
        refine g_iald C Z iaM55 hv18 dX11_sign_98 ?_
        refine lv_iadd hx hb dX11_sign_99 ?_
        obtain ⟨v19, ev19, h⟩ := lb h
        refine tn_i ev19 ?_
        refine lv_istore (lv' := [(8, .int v19), (7, .int v17), (0, .ref (ad 0)), (1, .int x1), (2, .int x2), (3, .int x3), (4, .int x4), (5, .int x5), (6, .int x6), (9, .int x9), (10, .int x10)]) hx hb dX11_sign_100 hl (by decide) rfl (fun ls hl => ?_)
        refine lv_iload hx hb dX11_sign_102 (lv_at hl 9 rfl) ?_
        refine lv_aload_n hx hb dX11_sign_104 rfl (lv_at hl 2 rfl) ?_
        refine rg_X11_210 C Z dX11_sign_105 ?_
        refine lv_iload hx hb dX11_sign_108 (lv_at hl 10 rfl) ?_
        obtain ⟨v20, hv20, h⟩ := ob h
        refine g_iald C Z iaM56 hv20 dX11_sign_110 ?_
        refine lv_iadd hx hb dX11_sign_111 ?_
        obtain ⟨v21, ev21, h⟩ := lb h
        refine tn_i ev21 ?_
        refine lv_istore (lv' := [(9, .int v21), (8, .int v19), (7, .int v17), (0, .ref (ad 0)), (1, .int x1), (2, .int x2), (3, .int x3), (4, .int x4), (5, .int x5), (6, .int x6), (10, .int x10)]) hx hb dX11_sign_112 hl (by decide) rfl (fun ls hl => ?_)
        exact w_X11_sign_114 C hR ih hk42 Z (lv_sub hl [3, 4, 5, 6, 7, 8, 9, 2, 1, 0, 10] rfl) h
      · have h := ip h c81
        refine lv_goto (tgt := 114) hx hb dX11_sign_84 (by decide) ?_
        exact w_X11_sign_114 C hR ih hk42 Z (lv_sub hl [0, 1, 2, 3, 4, 5, 6, 7, 8, 9, 10] rfl) h
set_option maxRecDepth 20000 in
theorem w_X11_sign_42 {p : Program} {l : Launch} {e : Env} {s : State} {m : MethodId} {args : Array Value} {below : List Frame} {meth : Method} {c : Code} {Q : State → Prop} {D : va_G} {kc : Nat → ClassId} {ad : Nat → Nat} {A : Nat → Prop} (C : Cx eM p s m args c cX11_sign 11 RX11 D kc A) {R : Int32} {x1 : Int32} {x2 : Int32} {σ : St} (hR : RTi 0 0 p l e r_X11_sign s m args below meth c cX11_sign tM kc ad D A Q .int R σ) : ∀ (n : Nat) (x3 : Int32) (x4 : Int32) (x5 : Int32) (x6 : Int32) (H : Heap) (locs : List Loc) (ls : Array Slot), Dy tM kc ad D A s.heap σ H locs → lv_has ls 11 [(0, .ref (ad 0)), (1, .int x1), (2, .int x2), (3, .int x3), (4, .int x4), (5, .int x5), (6, .int x6)] → f_X11_sign_42 x1 x2 σ n x3 x4 x5 x6 = some R → W p l e r_X11_sign s m args below meth c H locs 0 0 Q (F0 m 42 ls []) := by
  have hx := C.1.1
  have hb := C.1.2.1
  intro n
  induction n with
  | zero =>
    intro x3 x4 x5 x6 H locs ls Z hl h
    exact absurd (show none = some R from h) (by simp)
  | succ n ih =>
    intro x3 x4 x5 x6 H locs ls Z hl h
    rw [f_X11_sign_42] at h
    refine lv_iload hx hb dX11_sign_42 (lv_at hl 6 rfl) ?_
    refine lv_iconst (v := 1) hx hb dX11_sign_44 (by decide) ?_
    refine lv_aload_n hx hb dX11_sign_45 rfl (lv_at hl 0 rfl) ?_
    refine rg_X11_589 C Z dX11_sign_46 ?_
    refine lv_ishl hx hb dX11_sign_49 ?_
    refine lv_icmp_ge (tgt := 187) hx hb dX11_sign_50 (by decide) (fun c50 => ?_) (fun c50 => ?_)
    · have h := ip h c50
      refine lv_iload_n hx hb dX11_sign_187 rfl (lv_at hl 3 rfl) ?_
      obtain rfl := Option.some.inj h
      exact hR _ _ _ _ _ Z dX11_sign_188 rfl
    · have h := im h c50
      refine lv_iconst (v := 0) hx hb dX11_sign_53 (by decide) ?_
      refine lv_istore (lv' := [(7, .int 0), (0, .ref (ad 0)), (1, .int x1), (2, .int x2), (3, .int x3), (4, .int x4), (5, .int x5), (6, .int x6)]) hx hb dX11_sign_54 hl (by decide) rfl (fun ls hl => ?_)
      refine lv_iconst (v := 0) hx hb dX11_sign_56 (by decide) ?_
      refine lv_istore (lv' := [(8, .int 0), (7, .int 0), (0, .ref (ad 0)), (1, .int x1), (2, .int x2), (3, .int x3), (4, .int x4), (5, .int x5), (6, .int x6)]) hx hb dX11_sign_57 hl (by decide) rfl (fun ls hl => ?_)
      refine lv_iconst (v := 0) hx hb dX11_sign_59 (by decide) ?_
      refine lv_istore (lv' := [(9, .int 0), (8, .int 0), (7, .int 0), (0, .ref (ad 0)), (1, .int x1), (2, .int x2), (3, .int x3), (4, .int x4), (5, .int x5), (6, .int x6)]) hx hb dX11_sign_60 hl (by decide) rfl (fun ls hl => ?_)
      refine lv_iconst (v := 0) hx hb dX11_sign_62 (by decide) ?_
      refine lv_istore (lv' := [(10, .int 0), (9, .int 0), (8, .int 0), (7, .int 0), (0, .ref (ad 0)), (1, .int x1), (2, .int x2), (3, .int x3), (4, .int x4), (5, .int x5), (6, .int x6)]) hx hb dX11_sign_63 hl (by decide) rfl (fun ls hl => ?_)
      exact w_X11_sign_65 C hR ih _ _ _ _ _ _ _ _ Z (lv_sub hl [4, 5, 6, 7, 8, 9, 10, 3, 2, 1, 0] rfl) h
set_option maxRecDepth 20000 in
theorem w_X11_sign_0 {p : Program} {l : Launch} {e : Env} {s : State} {m : MethodId} {args : Array Value} {below : List Frame} {meth : Method} {c : Code} {Q : State → Prop} {D : va_G} {kc : Nat → ClassId} {ad : Nat → Nat} {A : Nat → Prop} (C : Cx eM p s m args c cX11_sign 11 RX11 D kc A) {R : Int32} {x1 : Int32} {x2 : Int32} {σ : St} (hR : RTi 0 0 p l e r_X11_sign s m args below meth c cX11_sign tM kc ad D A Q .int R σ) {H : Heap} {locs : List Loc} {ls : Array Slot} (Z : Dy tM kc ad D A s.heap σ H locs) (hl : lv_has ls 11 [(0, .ref (ad 0)), (1, .int x1), (2, .int x2)]) (h : f_X11_sign x1 x2 σ = some R) : W p l e r_X11_sign s m args below meth c H locs 0 0 Q (F0 m 0 ls []) := by
  have hx := C.1.1
  have hb := C.1.2.1
  unfold f_X11_sign at h
  refine lv_iload_n hx hb dX11_sign_0 rfl (lv_at hl 1 rfl) ?_
  refine lv_i2l (v := x1.toInt64) hx hb dX11_sign_1 rfl ?_
  refine lv_ldc2 (v := (-99999)) hx hb C.1.2.2.2.1 (C.1.2.2.2.2 _ wDL_X11_594) dX11_sign_2 ?_
  refine lv_ldc2 (v := 99999) hx hb C.1.2.2.2.1 (C.1.2.2.2.2 _ wDL_X11_572) dX11_sign_5 ?_
  refine g_callSi eM_ok C Z (k_X11_in x1.toInt64 (-99999) 99999 σ) lk_X11_233 hl (by decide) rfl (Nat.le_of_ble_eq_true rfl) (rest := []) rfl dX11_sign_8 (fun H locs Z => ?_)
  refine lv_if_eq (tgt := 28) hx hb dX11_sign_11 (by decide) (fun c11 => ?_) (fun c11 => ?_)
  · have h := ip h c11
    refine lv_iconst (v := (-1)) hx hb dX11_sign_28 (by decide) ?_
    obtain rfl := Option.some.inj h
    exact hR _ _ _ _ _ Z dX11_sign_29 rfl
  · have h := im h c11
    refine lv_iload_n hx hb dX11_sign_14 rfl (lv_at hl 2 rfl) ?_
    refine lv_i2l (v := x2.toInt64) hx hb dX11_sign_15 rfl ?_
    refine lv_ldc2 (v := (-99999)) hx hb C.1.2.2.2.1 (C.1.2.2.2.2 _ wDL_X11_594) dX11_sign_16 ?_
    refine lv_ldc2 (v := 99999) hx hb C.1.2.2.2.1 (C.1.2.2.2.2 _ wDL_X11_572) dX11_sign_19 ?_
    refine g_callSi eM_ok C Z (k_X11_in x2.toInt64 (-99999) 99999 σ) lk_X11_233 hl (by decide) rfl (Nat.le_of_ble_eq_true rfl) (rest := []) rfl dX11_sign_22 (fun H locs Z => ?_)
    refine lv_if_ne (tgt := 30) hx hb dX11_sign_25 (by decide) (fun c25 => ?_) (fun c25 => ?_)
    · have h := im h c25
      refine lv_bipush (v := (-2)) hx hb dX11_sign_30 (by decide) ?_
      refine lv_istore_n (lv' := [(3, .int (-2)), (0, .ref (ad 0)), (1, .int x1), (2, .int x2)]) hx hb dX11_sign_32 rfl hl (by decide) rfl (fun ls hl => ?_)
      refine lv_iconst (v := 0) hx hb dX11_sign_33 (by decide) ?_
      refine lv_istore (lv' := [(4, .int 0), (3, .int (-2)), (0, .ref (ad 0)), (1, .int x1), (2, .int x2)]) hx hb dX11_sign_34 hl (by decide) rfl (fun ls hl => ?_)
      refine lv_iconst (v := 0) hx hb dX11_sign_36 (by decide) ?_
      refine lv_istore (lv' := [(5, .int 0), (4, .int 0), (3, .int (-2)), (0, .ref (ad 0)), (1, .int x1), (2, .int x2)]) hx hb dX11_sign_37 hl (by decide) rfl (fun ls hl => ?_)
      refine lv_iconst (v := 0) hx hb dX11_sign_39 (by decide) ?_
      refine lv_istore (lv' := [(6, .int 0), (5, .int 0), (4, .int 0), (3, .int (-2)), (0, .ref (ad 0)), (1, .int x1), (2, .int x2)]) hx hb dX11_sign_40 hl (by decide) rfl (fun ls hl => ?_)
      exact w_X11_sign_42 C hR _ _ _ _ _ _ _ _ Z (lv_sub hl [4, 5, 6, 3, 2, 1, 0] rfl) h
    · have h := ip h c25
      refine lv_iconst (v := (-1)) hx hb dX11_sign_28 (by decide) ?_
      obtain rfl := Option.some.inj h
      exact hR _ _ _ _ _ Z dX11_sign_29 rfl
theorem k_X11_sign {l : Launch} {kc : Nat → ClassId} {ad : Nat → Nat} {D : va_G} {x1 : Int32} {x2 : Int32} {σ : St} {R : Int32} (h : f_X11_sign x1 x2 σ = some R) : KC eM tM kc ad D l yX11_sign (.code yX11_sign cX11_sign 11 (some .int)) r_X11_sign [.ref (ad 0), .int x1, .int x2] (some (.int R)) σ σ := by
  refine g_enter (by decide) (Nat.le_of_ble_eq_true rfl) ?_
  intro p e s m args below meth c A hA C hr hlocks Z ls hl
  have hl : lv_has ls 11 [(0, .ref (ad 0)), (1, .int x1), (2, .int x2)] := hl
  exact w_X11_sign_0 C (g_RTi C.1.1 C.1.2.1 hr hlocks hA)  Z hl h
def r_X11_box : Room := { frames := 1, cells := 0, slots := 0, locals := 25 }
set_option maxRecDepth 20000 in
theorem w_X11_box_0 {p : Program} {l : Launch} {e : Env} {s : State} {m : MethodId} {args : Array Value} {below : List Frame} {meth : Method} {c : Code} {Q : State → Prop} {D : va_G} {kc : Nat → ClassId} {ad : Nat → Nat} {A : Nat → Prop} (C : Cx eM p s m args c cX11_box 4 RX11 D kc A) {R : Int32 × St} {x1 : Int32} {x2 : Int32} {x3 : Int32} {σ : St} (hR : RTi 0 0 p l e r_X11_box s m args below meth c cX11_box tM kc ad D A Q .int R.1 R.2) {H : Heap} {locs : List Loc} {ls : Array Slot} (Z : Dy tM kc ad D A s.heap σ H locs) (hl : lv_has ls 4 [(0, .ref (ad 0)), (1, .int x1), (2, .int x2), (3, .int x3)]) (h : f_X11_box x1 x2 x3 σ = some R) : W p l e r_X11_box s m args below meth c H locs 0 0 Q (F0 m 0 ls []) := by
  have hx := C.1.1
  have hb := C.1.2.1
  unfold f_X11_box at h
  refine lv_aload_n hx hb dX11_box_0 rfl (lv_at hl 0 rfl) ?_
  refine rg_X11_596 C Z dX11_box_1 ?_
  refine lv_bipush (v := 6) hx hb dX11_box_4 (by decide) ?_
  refine lv_icmp_eq (tgt := 45) hx hb dX11_box_6 (by decide) (fun c6 => ?_) (fun c6 => ?_)
  · have h := ip h c6
    refine lv_iconst (v := (-1)) hx hb dX11_box_45 (by decide) ?_
    obtain rfl := Option.some.inj h
    exact hR _ _ _ _ _ Z dX11_box_46 rfl
  · have h := im h c6
    refine lv_iload_n hx hb dX11_box_9 rfl (lv_at hl 1 rfl) ?_
    refine lv_i2l (v := x1.toInt64) hx hb dX11_box_10 rfl ?_
    refine lv_lconst (v := 0) hx hb dX11_box_11 (by decide) ?_
    refine lv_ldc2 (v := 9999) hx hb C.1.2.2.2.1 (C.1.2.2.2.2 _ wDL_X11_570) dX11_box_12 ?_
    refine g_callSi eM_ok C Z (k_X11_in x1.toInt64 0 9999 σ) lk_X11_233 hl (by decide) rfl (Nat.le_of_ble_eq_true rfl) (rest := []) rfl dX11_box_15 (fun H locs Z => ?_)
    refine lv_if_eq (tgt := 45) hx hb dX11_box_18 (by decide) (fun c18 => ?_) (fun c18 => ?_)
    · have h := ip h c18
      refine lv_iconst (v := (-1)) hx hb dX11_box_45 (by decide) ?_
      obtain rfl := Option.some.inj h
      exact hR _ _ _ _ _ Z dX11_box_46 rfl
    · have h := im h c18
      refine lv_iload_n hx hb dX11_box_21 rfl (lv_at hl 2 rfl) ?_
      refine lv_i2l (v := x2.toInt64) hx hb dX11_box_22 rfl ?_
      refine lv_lconst (v := 0) hx hb dX11_box_23 (by decide) ?_
      refine lv_ldc2 (v := 999) hx hb C.1.2.2.2.1 (C.1.2.2.2.2 _ wDL_X11_246) dX11_box_24 ?_
      refine g_callSi eM_ok C Z (k_X11_in x2.toInt64 0 999 σ) lk_X11_233 hl (by decide) rfl (Nat.le_of_ble_eq_true rfl) (rest := []) rfl dX11_box_27 (fun H locs Z => ?_)
      refine lv_if_eq (tgt := 45) hx hb dX11_box_30 (by decide) (fun c30 => ?_) (fun c30 => ?_)
      · have h := ip h c30
        refine lv_iconst (v := (-1)) hx hb dX11_box_45 (by decide) ?_
        obtain rfl := Option.some.inj h
        exact hR _ _ _ _ _ Z dX11_box_46 rfl
      · have h := im h c30
        refine lv_iload_n hx hb dX11_box_33 rfl (lv_at hl 3 rfl) ?_
        refine lv_i2l (v := x3.toInt64) hx hb dX11_box_34 rfl ?_
        refine lv_lconst (v := 0) hx hb dX11_box_35 (by decide) ?_
        refine lv_ldc2 (v := 99) hx hb C.1.2.2.2.1 (C.1.2.2.2.2 _ wDL_X11_599) dX11_box_36 ?_
        refine g_callSi eM_ok C Z (k_X11_in x3.toInt64 0 99 σ) lk_X11_233 hl (by decide) rfl (Nat.le_of_ble_eq_true rfl) (rest := []) rfl dX11_box_39 (fun H locs Z => ?_)
        refine lv_if_ne (tgt := 47) hx hb dX11_box_42 (by decide) (fun c42 => ?_) (fun c42 => ?_)
        · have h := im h c42
          refine lv_aload_n hx hb dX11_box_47 rfl (lv_at hl 0 rfl) ?_
          refine rg_X11_213 C Z dX11_box_48 ?_
          refine lv_aload_n hx hb dX11_box_51 rfl (lv_at hl 0 rfl) ?_
          refine rg_X11_596 C Z dX11_box_52 ?_
          refine lv_iload_n hx hb dX11_box_55 rfl (lv_at hl 1 rfl) ?_
          obtain ⟨σ9, hσ9, h⟩ := ob h
          refine g_iast C Z iaM57 hσ9 dX11_box_56 (fun H locs Z => ?_)
          refine lv_aload_n hx hb dX11_box_57 rfl (lv_at hl 0 rfl) ?_
          refine rg_X11_216 C Z dX11_box_58 ?_
          refine lv_aload_n hx hb dX11_box_61 rfl (lv_at hl 0 rfl) ?_
          refine rg_X11_596 C Z dX11_box_62 ?_
          refine lv_iload_n hx hb dX11_box_65 rfl (lv_at hl 2 rfl) ?_
          obtain ⟨σ10, hσ10, h⟩ := ob h
          refine g_iast C Z iaM58 hσ10 dX11_box_66 (fun H locs Z => ?_)
          refine lv_aload_n hx hb dX11_box_67 rfl (lv_at hl 0 rfl) ?_
          refine rg_X11_219 C Z dX11_box_68 ?_
          refine lv_aload_n hx hb dX11_box_71 rfl (lv_at hl 0 rfl) ?_
          refine rg_X11_596 C Z dX11_box_72 ?_
          refine lv_iload_n hx hb dX11_box_75 rfl (lv_at hl 3 rfl) ?_
          obtain ⟨σ11, hσ11, h⟩ := ob h
          refine g_iast C Z iaM59 hσ11 dX11_box_76 (fun H locs Z => ?_)
          refine lv_aload_n hx hb dX11_box_77 rfl (lv_at hl 0 rfl) ?_
          refine lv_dup hx hb dX11_box_78 rfl ?_
          refine rg_X11_596 C Z dX11_box_79 ?_
          refine lv_iconst (v := 1) hx hb dX11_box_82 (by decide) ?_
          refine lv_iadd hx hb dX11_box_83 ?_
          obtain ⟨σ12, eσ12, h⟩ := lb h
          refine rp_X11_596 C Z eσ12 dX11_box_84 (fun H locs Z => ?_)
          refine lv_aload_n hx hb dX11_box_87 rfl (lv_at hl 0 rfl) ?_
          refine rg_X11_596 C Z dX11_box_88 ?_
          refine lv_iconst (v := 1) hx hb dX11_box_91 (by decide) ?_
          refine lv_isub hx hb dX11_box_92 ?_
          obtain rfl := Option.some.inj h
          exact hR _ _ _ _ _ Z dX11_box_93 rfl
        · have h := ip h c42
          refine lv_iconst (v := (-1)) hx hb dX11_box_45 (by decide) ?_
          obtain rfl := Option.some.inj h
          exact hR _ _ _ _ _ Z dX11_box_46 rfl
theorem k_X11_box {l : Launch} {kc : Nat → ClassId} {ad : Nat → Nat} {D : va_G} {x1 : Int32} {x2 : Int32} {x3 : Int32} {σ : St} {R : Int32 × St} (h : f_X11_box x1 x2 x3 σ = some R) : KC eM tM kc ad D l yX11_box (.code yX11_box cX11_box 4 (some .int)) r_X11_box [.ref (ad 0), .int x1, .int x2, .int x3] (some (.int R.1)) σ R.2 := by
  refine g_enter (by decide) (Nat.le_of_ble_eq_true rfl) ?_
  intro p e s m args below meth c A hA C hr hlocks Z ls hl
  have hl : lv_has ls 4 [(0, .ref (ad 0)), (1, .int x1), (2, .int x2), (3, .int x3)] := hl
  exact w_X11_box_0 C (g_RTi C.1.1 C.1.2.1 hr hlocks hA)  Z hl h
def r_X11_cut : Room := { frames := 0, cells := 0, slots := 0, locals := 0 }
set_option maxRecDepth 20000 in
theorem w_X11_cut_0 {p : Program} {l : Launch} {e : Env} {s : State} {m : MethodId} {args : Array Value} {below : List Frame} {meth : Method} {c : Code} {Q : State → Prop} {D : va_G} {kc : Nat → ClassId} {ad : Nat → Nat} {A : Nat → Prop} (C : Cx eM p s m args c cX11_cut 5 RX11 D kc A) {R : Int32} {x1 : Int32} {x2 : Int32} {x3 : Int32} {σ : St} (hR : RTi 0 0 p l e r_X11_cut s m args below meth c cX11_cut tM kc ad D A Q .int R σ) {H : Heap} {locs : List Loc} {ls : Array Slot} (Z : Dy tM kc ad D A s.heap σ H locs) (hl : lv_has ls 5 [(0, .ref (ad 0)), (1, .int x1), (2, .int x2), (3, .int x3)]) (h : f_X11_cut x1 x2 x3 σ = some R) : W p l e r_X11_cut s m args below meth c H locs 0 0 Q (F0 m 0 ls []) := by
  have hx := C.1.1
  have hb := C.1.2.1
  unfold f_X11_cut at h
  refine lv_iload_n hx hb dX11_cut_0 rfl (lv_at hl 2 rfl) ?_
  refine lv_aload_n hx hb dX11_cut_1 rfl (lv_at hl 0 rfl) ?_
  refine rg_X11_219 C Z dX11_cut_2 ?_
  refine lv_iload_n hx hb dX11_cut_5 rfl (lv_at hl 1 rfl) ?_
  obtain ⟨v5, hv5, h⟩ := ob h
  refine g_iald C Z iaM59 hv5 dX11_cut_6 ?_
  refine lv_imul hx hb dX11_cut_7 ?_
  refine lv_bipush (v := 10) hx hb dX11_cut_8 (by decide) ?_
  refine lv_iload_n hx hb dX11_cut_10 rfl (lv_at hl 3 rfl) ?_
  refine lv_imul hx hb dX11_cut_11 ?_
  refine lv_isub hx hb dX11_cut_12 ?_
  obtain ⟨v6, ev6, h⟩ := lb h
  refine tn_i ev6 ?_
  refine lv_istore (lv' := [(4, .int v6), (0, .ref (ad 0)), (1, .int x1), (2, .int x2), (3, .int x3)]) hx hb dX11_cut_13 hl (by decide) rfl (fun ls hl => ?_)
  refine lv_iload hx hb dX11_cut_15 (lv_at hl 0 rfl) ?_
  obtain ⟨v7, ev7, h⟩ := lb h
  have hj : W p l e r_X11_cut s m args below meth c H locs 0 0 Q (F0 m 26 ls [.int v7]) := by
    obtain rfl := Option.some.inj h
    exact hR _ _ _ _ _ Z dX11_cut_26 rfl
  refine lv_if_ge (tgt := 24) hx hb dX11_cut_17 (by decide) (fun c17 => ?_) (fun c17 => ?_)
  · rw [if_pos c17] at ev7
    refine lv_iload hx hb dX11_cut_24 (lv_at hl 0 rfl) ?_
    exact tn_i ev7 hj
  · rw [if_neg c17] at ev7
    refine lv_iconst (v := 0) hx hb dX11_cut_20 (by decide) ?_
    refine lv_goto (tgt := 26) hx hb dX11_cut_21 (by decide) ?_
    exact tn_i ev7 hj
theorem k_X11_cut {l : Launch} {kc : Nat → ClassId} {ad : Nat → Nat} {D : va_G} {x1 : Int32} {x2 : Int32} {x3 : Int32} {σ : St} {R : Int32} (h : f_X11_cut x1 x2 x3 σ = some R) : KC eM tM kc ad D l yX11_cut (.code yX11_cut cX11_cut 5 (some .int)) r_X11_cut [.ref (ad 0), .int x1, .int x2, .int x3] (some (.int R)) σ σ := by
  refine g_enter (by decide) (Nat.le_of_ble_eq_true rfl) ?_
  intro p e s m args below meth c A hA C hr hlocks Z ls hl
  have hl : lv_has ls 5 [(0, .ref (ad 0)), (1, .int x1), (2, .int x2), (3, .int x3)] := hl
  exact w_X11_cut_0 C (g_RTi C.1.1 C.1.2.1 hr hlocks hA)  Z hl h
def r_X11_caughtIn : Room := { frames := 0, cells := 0, slots := 0, locals := 0 }
set_option maxRecDepth 20000 in
theorem w_X11_caughtIn_0 {p : Program} {l : Launch} {e : Env} {s : State} {m : MethodId} {args : Array Value} {below : List Frame} {meth : Method} {c : Code} {Q : State → Prop} {D : va_G} {kc : Nat → ClassId} {ad : Nat → Nat} {A : Nat → Prop} (C : Cx eM p s m args c cX11_caughtIn 3 RX11 D kc A) {R : Int32} {x1 : Int32} {x2 : Int32} {σ : St} (hR : RTi 0 0 p l e r_X11_caughtIn s m args below meth c cX11_caughtIn tM kc ad D A Q .int R σ) {H : Heap} {locs : List Loc} {ls : Array Slot} (Z : Dy tM kc ad D A s.heap σ H locs) (hl : lv_has ls 3 [(0, .ref (ad 0)), (1, .int x1), (2, .int x2)]) (h : f_X11_caughtIn x1 x2 σ = some R) : W p l e r_X11_caughtIn s m args below meth c H locs 0 0 Q (F0 m 0 ls []) := by
  have hx := C.1.1
  have hb := C.1.2.1
  unfold f_X11_caughtIn at h
  refine lv_iload_n hx hb dX11_caughtIn_0 rfl (lv_at hl 2 rfl) ?_
  refine lv_aload_n hx hb dX11_caughtIn_1 rfl (lv_at hl 0 rfl) ?_
  refine rg_X11_213 C Z dX11_caughtIn_2 ?_
  refine lv_iload_n hx hb dX11_caughtIn_5 rfl (lv_at hl 1 rfl) ?_
  obtain ⟨v3, hv3, h⟩ := ob h
  refine g_iald C Z iaM57 hv3 dX11_caughtIn_6 ?_
  refine lv_imul hx hb dX11_caughtIn_7 ?_
  refine lv_iload_n hx hb dX11_caughtIn_8 rfl (lv_at hl 2 rfl) ?_
  refine lv_iload_n hx hb dX11_caughtIn_9 rfl (lv_at hl 2 rfl) ?_
  refine lv_iconst (v := 1) hx hb dX11_caughtIn_10 (by decide) ?_
  refine lv_isub hx hb dX11_caughtIn_11 ?_
  refine lv_imul hx hb dX11_caughtIn_12 ?_
  refine lv_aload_n hx hb dX11_caughtIn_13 rfl (lv_at hl 0 rfl) ?_
  refine rg_X11_216 C Z dX11_caughtIn_14 ?_
  refine lv_iload_n hx hb dX11_caughtIn_17 rfl (lv_at hl 1 rfl) ?_
  obtain ⟨v4, hv4, h⟩ := ob h
  refine g_iald C Z iaM58 hv4 dX11_caughtIn_18 ?_
  refine lv_imul hx hb dX11_caughtIn_19 ?_
  refine lv_isub hx hb dX11_caughtIn_20 ?_
  obtain rfl := Option.some.inj h
  exact hR _ _ _ _ _ Z dX11_caughtIn_21 rfl
theorem k_X11_caughtIn {l : Launch} {kc : Nat → ClassId} {ad : Nat → Nat} {D : va_G} {x1 : Int32} {x2 : Int32} {σ : St} {R : Int32} (h : f_X11_caughtIn x1 x2 σ = some R) : KC eM tM kc ad D l yX11_caughtIn (.code yX11_caughtIn cX11_caughtIn 3 (some .int)) r_X11_caughtIn [.ref (ad 0), .int x1, .int x2] (some (.int R)) σ σ := by
  refine g_enter (by decide) (Nat.le_of_ble_eq_true rfl) ?_
  intro p e s m args below meth c A hA C hr hlocks Z ls hl
  have hl : lv_has ls 3 [(0, .ref (ad 0)), (1, .int x1), (2, .int x2)] := hl
  exact w_X11_caughtIn_0 C (g_RTi C.1.1 C.1.2.1 hr hlocks hA)  Z hl h
def r_X11_place : Room := { frames := 0, cells := 0, slots := 0, locals := 0 }
set_option maxRecDepth 20000 in
theorem w_X11_place_0 {p : Program} {l : Launch} {e : Env} {s : State} {m : MethodId} {args : Array Value} {below : List Frame} {meth : Method} {c : Code} {Q : State → Prop} {D : va_G} {kc : Nat → ClassId} {ad : Nat → Nat} {A : Nat → Prop} (C : Cx eM p s m args c cX11_place 3 RX11 D kc A) {R : Int32} {x0 : Int32} {x1 : Int32} {x2 : Int32} {σ : St} (hR : RTi 0 0 p l e r_X11_place s m args below meth c cX11_place tM kc ad D A Q .int R σ) {H : Heap} {locs : List Loc} {ls : Array Slot} (Z : Dy tM kc ad D A s.heap σ H locs) (hl : lv_has ls 3 [(0, .int x0), (1, .int x1), (2, .int x2)]) (h : f_X11_place x0 x1 x2 = R) : W p l e r_X11_place s m args below meth c H locs 0 0 Q (F0 m 0 ls []) := by
  have hx := C.1.1
  have hb := C.1.2.1
  unfold f_X11_place at h
  refine lv_bipush (v := 91) hx hb dX11_place_0 (by decide) ?_
  refine lv_iload_n hx hb dX11_place_2 rfl (lv_at hl 0 rfl) ?_
  refine lv_imul hx hb dX11_place_3 ?_
  refine lv_bipush (v := 7) hx hb dX11_place_4 (by decide) ?_
  refine lv_iload_n hx hb dX11_place_6 rfl (lv_at hl 1 rfl) ?_
  refine lv_imul hx hb dX11_place_7 ?_
  refine lv_iadd hx hb dX11_place_8 ?_
  refine lv_iload_n hx hb dX11_place_9 rfl (lv_at hl 2 rfl) ?_
  refine lv_iadd hx hb dX11_place_10 ?_
  subst h
  exact hR _ _ _ _ _ Z dX11_place_11 rfl
theorem k_X11_place {l : Launch} {kc : Nat → ClassId} {ad : Nat → Nat} {D : va_G} (x0 : Int32) (x1 : Int32) (x2 : Int32) (σ : St) : KC eM tM kc ad D l yX11_place (.code yX11_place cX11_place 3 (some .int)) r_X11_place [.int x0, .int x1, .int x2] (some (.int (f_X11_place x0 x1 x2))) σ σ := by
  refine g_enter (by decide) (Nat.le_of_ble_eq_true rfl) ?_
  intro p e s m args below meth c A hA C hr hlocks Z ls hl
  have hl : lv_has ls 3 [(0, .int x0), (1, .int x1), (2, .int x2)] := hl
  exact w_X11_place_0 C (g_RTi C.1.1 C.1.2.1 hr hlocks hA)  Z hl rfl
def r_X11_worth : Room := { frames := 1, cells := 0, slots := 0, locals := 24 }
set_option maxRecDepth 20000 in
theorem w_X11_worth_0 {p : Program} {l : Launch} {e : Env} {s : State} {m : MethodId} {args : Array Value} {below : List Frame} {meth : Method} {c : Code} {Q : State → Prop} {D : va_G} {kc : Nat → ClassId} {ad : Nat → Nat} {A : Nat → Prop} (C : Cx eM p s m args c cX11_worth 4 RX11 D kc A) {R : Int64} {x1 : Int32} {x2 : Int32} {x3 : Int32} {σ : St} (hR : RTl 0 0 p l e r_X11_worth s m args below meth c cX11_worth tM kc ad D A Q R σ) {H : Heap} {locs : List Loc} {ls : Array Slot} (Z : Dy tM kc ad D A s.heap σ H locs) (hl : lv_has ls 4 [(0, .ref (ad 0)), (1, .int x1), (2, .int x2), (3, .int x3)]) (h : f_X11_worth x1 x2 x3 σ = some R) : W p l e r_X11_worth s m args below meth c H locs 0 0 Q (F0 m 0 ls []) := by
  have hx := C.1.1
  have hb := C.1.2.1
  unfold f_X11_worth at h
  refine lv_ldc2 (v := 1000000) hx hb C.1.2.2.2.1 (C.1.2.2.2.2 _ wDL_X11_601) dX11_worth_0 ?_
  refine lv_aload_n hx hb dX11_worth_3 rfl (lv_at hl 0 rfl) ?_
  refine lv_iload_n hx hb dX11_worth_4 rfl (lv_at hl 1 rfl) ?_
  refine lv_iload_n hx hb dX11_worth_5 rfl (lv_at hl 2 rfl) ?_
  refine lv_iload_n hx hb dX11_worth_6 rfl (lv_at hl 3 rfl) ?_
  obtain ⟨v3, hv3, h⟩ := ob h
  refine g_callVi eM_ok C Z (k_X11_cut hv3) lk_X11_603 (by decide) rfl rfl hl (by decide) rfl (Nat.le_of_ble_eq_true rfl) (rest := [.long 1000000]) rfl dX11_worth_7 (fun H locs Z => ?_)
  refine lv_i2l (v := v3.toInt64) hx hb dX11_worth_10 rfl ?_
  refine lv_lmul hx hb dX11_worth_11 ?_
  refine lv_aload_n hx hb dX11_worth_12 rfl (lv_at hl 0 rfl) ?_
  refine lv_iload_n hx hb dX11_worth_13 rfl (lv_at hl 1 rfl) ?_
  refine lv_iload_n hx hb dX11_worth_14 rfl (lv_at hl 2 rfl) ?_
  obtain ⟨v4, hv4, h⟩ := ob h
  refine g_callVi eM_ok C Z (k_X11_caughtIn hv4) lk_X11_606 (by decide) rfl rfl hl (by decide) rfl (Nat.le_of_ble_eq_true rfl) (rest := [.long (1000000 * v3.toInt64)]) rfl dX11_worth_15 (fun H locs Z => ?_)
  refine lv_i2l (v := v4.toInt64) hx hb dX11_worth_18 rfl ?_
  refine lv_lsub hx hb dX11_worth_19 ?_
  obtain rfl := Option.some.inj h
  exact hR _ _ _ _ Z dX11_worth_20
theorem k_X11_worth {l : Launch} {kc : Nat → ClassId} {ad : Nat → Nat} {D : va_G} {x1 : Int32} {x2 : Int32} {x3 : Int32} {σ : St} {R : Int64} (h : f_X11_worth x1 x2 x3 σ = some R) : KC eM tM kc ad D l yX11_worth (.code yX11_worth cX11_worth 4 (some .long)) r_X11_worth [.ref (ad 0), .int x1, .int x2, .int x3] (some (.long R)) σ σ := by
  refine g_enter (by decide) (Nat.le_of_ble_eq_true rfl) ?_
  intro p e s m args below meth c A hA C hr hlocks Z ls hl
  have hl : lv_has ls 4 [(0, .ref (ad 0)), (1, .int x1), (2, .int x2), (3, .int x3)] := hl
  exact w_X11_worth_0 C (g_RTl C.1.1 C.1.2.1 hr hlocks hA)  Z hl h
def r_X11_bestFrom : Room := { frames := 2, cells := 0, slots := 0, locals := 47 }
set_option maxRecDepth 20000 in
theorem w_X11_bestFrom_85 {p : Program} {l : Launch} {e : Env} {s : State} {m : MethodId} {args : Array Value} {below : List Frame} {meth : Method} {c : Code} {Q : State → Prop} {D : va_G} {kc : Nat → ClassId} {ad : Nat → Nat} {A : Nat → Prop} (C : Cx eM p s m args c cX11_bestFrom 10 RX11 D kc A) {R : Int64} {x1 : Int32} {x2 : Int32} {x3 : Int32} {x4 : Int64} {x6 : Int32} {x7 : Int32} {σ : St} (hR : RTl 0 0 p l e r_X11_bestFrom s m args below meth c cX11_bestFrom tM kc ad D A Q R σ) {k17 : Int64 → Int32 → Option (Int64)} {k8 : Int64 → Int32 → Option (Int64)} (hk17 : ∀ (x4 : Int64) (x7 : Int32) (H : Heap) (locs : List Loc) (ls : Array Slot), Dy tM kc ad D A s.heap σ H locs → lv_has ls 10 [(0, .ref (ad 0)), (1, .int x1), (2, .int x2), (3, .int x3), (4, .long x4), (6, .int x6), (7, .int x7)] → k17 x4 x7 = some R → W p l e r_X11_bestFrom s m args below meth c H locs 0 0 Q (F0 m 17 ls [])) (hk8 : ∀ (x4 : Int64) (x6 : Int32) (H : Heap) (locs : List Loc) (ls : Array Slot), Dy tM kc ad D A s.heap σ H locs → lv_has ls 10 [(0, .ref (ad 0)), (1, .int x1), (2, .int x2), (3, .int x3), (4, .long x4), (6, .int x6)] → k8 x4 x6 = some R → W p l e r_X11_bestFrom s m args below meth c H locs 0 0 Q (F0 m 8 ls [])) {H : Heap} {locs : List Loc} {ls : Array Slot} (Z : Dy tM kc ad D A s.heap σ H locs) (hl : lv_has ls 10 [(0, .ref (ad 0)), (1, .int x1), (2, .int x2), (3, .int x3), (4, .long x4), (6, .int x6), (7, .int x7)]) (h : f_X11_bestFrom_85 x1 x2 x3 x4 x6 x7 σ k17 k8 = some R) : W p l e r_X11_bestFrom s m args below meth c H locs 0 0 Q (F0 m 85 ls []) := by
  have hx := C.1.1
  have hb := C.1.2.1
  unfold f_X11_bestFrom_85 at h
  obtain ⟨v17, ev17, h⟩ := lb h
  refine lv_iinc (v := v17) (lv' := [(7, .int v17), (0, .ref (ad 0)), (1, .int x1), (2, .int x2), (3, .int x3), (4, .long x4), (6, .int x6)]) hx hb dX11_bestFrom_85 hl (k := 6) rfl (by rw [ev17]; rfl) (by decide) rfl (fun ls hl => ?_)
  refine lv_goto (tgt := 17) hx hb dX11_bestFrom_88 (by decide) ?_
  exact hk17 _ _ _ _ _ Z (lv_sub hl [1, 2, 3, 4, 5, 6, 0] rfl) h
set_option maxRecDepth 20000 in
theorem w_X11_bestFrom_91 {p : Program} {l : Launch} {e : Env} {s : State} {m : MethodId} {args : Array Value} {below : List Frame} {meth : Method} {c : Code} {Q : State → Prop} {D : va_G} {kc : Nat → ClassId} {ad : Nat → Nat} {A : Nat → Prop} (C : Cx eM p s m args c cX11_bestFrom 10 RX11 D kc A) {R : Int64} {x1 : Int32} {x2 : Int32} {x3 : Int32} {x4 : Int64} {x6 : Int32} {σ : St} (hR : RTl 0 0 p l e r_X11_bestFrom s m args below meth c cX11_bestFrom tM kc ad D A Q R σ) {k8 : Int64 → Int32 → Option (Int64)} (hk8 : ∀ (x4 : Int64) (x6 : Int32) (H : Heap) (locs : List Loc) (ls : Array Slot), Dy tM kc ad D A s.heap σ H locs → lv_has ls 10 [(0, .ref (ad 0)), (1, .int x1), (2, .int x2), (3, .int x3), (4, .long x4), (6, .int x6)] → k8 x4 x6 = some R → W p l e r_X11_bestFrom s m args below meth c H locs 0 0 Q (F0 m 8 ls [])) {H : Heap} {locs : List Loc} {ls : Array Slot} (Z : Dy tM kc ad D A s.heap σ H locs) (hl : lv_has ls 10 [(0, .ref (ad 0)), (1, .int x1), (2, .int x2), (3, .int x3), (4, .long x4), (6, .int x6)]) (h : f_X11_bestFrom_91 x1 x2 x3 x4 x6 σ k8 = some R) : W p l e r_X11_bestFrom s m args below meth c H locs 0 0 Q (F0 m 91 ls []) := by
  have hx := C.1.1
  have hb := C.1.2.1
  unfold f_X11_bestFrom_91 at h
  obtain ⟨v18, ev18, h⟩ := lb h
  refine lv_iinc (v := v18) (lv' := [(6, .int v18), (0, .ref (ad 0)), (1, .int x1), (2, .int x2), (3, .int x3), (4, .long x4)]) hx hb dX11_bestFrom_91 hl (k := 5) rfl (by rw [ev18]; rfl) (by decide) rfl (fun ls hl => ?_)
  refine lv_goto (tgt := 8) hx hb dX11_bestFrom_94 (by decide) ?_
  exact hk8 _ _ _ _ _ Z (lv_sub hl [1, 2, 3, 4, 5, 0] rfl) h
set_option maxRecDepth 20000 in
theorem w_X11_bestFrom_17 {p : Program} {l : Launch} {e : Env} {s : State} {m : MethodId} {args : Array Value} {below : List Frame} {meth : Method} {c : Code} {Q : State → Prop} {D : va_G} {kc : Nat → ClassId} {ad : Nat → Nat} {A : Nat → Prop} (C : Cx eM p s m args c cX11_bestFrom 10 RX11 D kc A) {R : Int64} {x1 : Int32} {x2 : Int32} {x3 : Int32} {x6 : Int32} {σ : St} (hR : RTl 0 0 p l e r_X11_bestFrom s m args below meth c cX11_bestFrom tM kc ad D A Q R σ) {k8 : Int64 → Int32 → Option (Int64)} (hk8 : ∀ (x4 : Int64) (x6 : Int32) (H : Heap) (locs : List Loc) (ls : Array Slot), Dy tM kc ad D A s.heap σ H locs → lv_has ls 10 [(0, .ref (ad 0)), (1, .int x1), (2, .int x2), (3, .int x3), (4, .long x4), (6, .int x6)] → k8 x4 x6 = some R → W p l e r_X11_bestFrom s m args below meth c H locs 0 0 Q (F0 m 8 ls [])) : ∀ (n : Nat) (x4 : Int64) (x7 : Int32) (H : Heap) (locs : List Loc) (ls : Array Slot), Dy tM kc ad D A s.heap σ H locs → lv_has ls 10 [(0, .ref (ad 0)), (1, .int x1), (2, .int x2), (3, .int x3), (4, .long x4), (6, .int x6), (7, .int x7)] → f_X11_bestFrom_17 x1 x2 x3 x6 σ k8 n x4 x7 = some R → W p l e r_X11_bestFrom s m args below meth c H locs 0 0 Q (F0 m 17 ls []) := by
  have hx := C.1.1
  have hb := C.1.2.1
  intro n
  induction n with
  | zero =>
    intro x4 x7 H locs ls Z hl h
    exact absurd (show none = some R from h) (by simp)
  | succ n ih =>
    intro x4 x7 H locs ls Z hl h
    rw [f_X11_bestFrom_17] at h
    refine lv_iload hx hb dX11_bestFrom_17 (lv_at hl 6 rfl) ?_
    refine lv_iload_n hx hb dX11_bestFrom_19 rfl (lv_at hl 3 rfl) ?_
    refine lv_icmp_gt (tgt := 91) hx hb dX11_bestFrom_20 (by decide) (fun c20 => ?_) (fun c20 => ?_)
    · have h := ip h c20
      exact w_X11_bestFrom_91 C hR hk8 Z (lv_sub hl [0, 1, 2, 3, 4, 5] rfl) h
    · have h := im h c20
      refine lv_aload_n hx hb dX11_bestFrom_23 rfl (lv_at hl 0 rfl) ?_
      refine rg_X11_222 C Z dX11_bestFrom_24 ?_
      refine lv_iload_n hx hb dX11_bestFrom_27 rfl (lv_at hl 1 rfl) ?_
      refine lv_iconst (v := 1) hx hb dX11_bestFrom_28 (by decide) ?_
      refine lv_iadd hx hb dX11_bestFrom_29 ?_
      refine lv_iload_n hx hb dX11_bestFrom_30 rfl (lv_at hl 2 rfl) ?_
      refine lv_iload hx hb dX11_bestFrom_31 (lv_at hl 5 rfl) ?_
      refine lv_isub hx hb dX11_bestFrom_33 ?_
      refine lv_iload_n hx hb dX11_bestFrom_34 rfl (lv_at hl 3 rfl) ?_
      refine lv_iload hx hb dX11_bestFrom_35 (lv_at hl 6 rfl) ?_
      refine lv_isub hx hb dX11_bestFrom_37 ?_
      refine g_callSi eM_ok C Z (k_X11_place (x1 + 1) (x2 - x6) (x3 - x7) σ) lk_X11_611 hl (by decide) rfl (Nat.le_of_ble_eq_true rfl) (rest := [.ref (ad 60)]) rfl dX11_bestFrom_38 (fun H locs Z => ?_)
      obtain ⟨v13, hv13, h⟩ := ob h
      refine g_lald C Z iaM60 hv13 dX11_bestFrom_41 ?_
      refine lv_lstore (lv' := [(8, .long v13), (0, .ref (ad 0)), (1, .int x1), (2, .int x2), (3, .int x3), (4, .long x4), (6, .int x6), (7, .int x7)]) hx hb dX11_bestFrom_42 hl (by decide) rfl (fun ls hl => ?_)
      refine lv_lload hx hb dX11_bestFrom_44 (lv_at hl 0 rfl) ?_
      refine lv_ldc2 (v := 1000000000000) hx hb C.1.2.2.2.1 (C.1.2.2.2.2 _ wDL_X11_609) dX11_bestFrom_46 ?_
      refine g_lge (tgt := 85) hx hb dX11_bestFrom_49 dX11_bestFrom_50 (by decide) (fun c50 => ?_) (fun c50 => ?_)
      · have h := ip h c50
        exact w_X11_bestFrom_85 C hR ih hk8 Z (lv_sub hl [1, 2, 3, 4, 5, 6, 7] rfl) h
      · have h := im h c50
        refine lv_aload_n hx hb dX11_bestFrom_53 rfl (lv_at hl 1 rfl) ?_
        refine lv_iload_n hx hb dX11_bestFrom_54 rfl (lv_at hl 2 rfl) ?_
        refine lv_iload hx hb dX11_bestFrom_55 (lv_at hl 6 rfl) ?_
        refine lv_iload hx hb dX11_bestFrom_57 (lv_at hl 7 rfl) ?_
        obtain ⟨v14, hv14, h⟩ := ob h
        refine g_callVl eM_ok C Z (k_X11_worth hv14) lk_X11_614 (by decide) rfl rfl hl (by decide) rfl (Nat.le_of_ble_eq_true rfl) (rest := []) rfl dX11_bestFrom_59 (fun H locs Z => ?_)
        refine lv_lload hx hb dX11_bestFrom_62 (lv_at hl 0 rfl) ?_
        refine lv_ladd hx hb dX11_bestFrom_64 ?_
        refine lv_lload hx hb dX11_bestFrom_65 (lv_at hl 5 rfl) ?_
        refine g_lge (tgt := 85) hx hb dX11_bestFrom_67 dX11_bestFrom_68 (by decide) (fun c68 => ?_) (fun c68 => ?_)
        · have h := ip h c68
          exact w_X11_bestFrom_85 C hR ih hk8 Z (lv_sub hl [1, 2, 3, 4, 5, 6, 7] rfl) h
        · have h := im h c68
          refine lv_aload_n hx hb dX11_bestFrom_71 rfl (lv_at hl 1 rfl) ?_
          refine lv_iload_n hx hb dX11_bestFrom_72 rfl (lv_at hl 2 rfl) ?_
          refine lv_iload hx hb dX11_bestFrom_73 (lv_at hl 6 rfl) ?_
          refine lv_iload hx hb dX11_bestFrom_75 (lv_at hl 7 rfl) ?_
          obtain ⟨v15, hv15, h⟩ := ob h
          refine g_callVl eM_ok C Z (k_X11_worth hv15) lk_X11_614 (by decide) rfl rfl hl (by decide) rfl (Nat.le_of_ble_eq_true rfl) (rest := []) rfl dX11_bestFrom_77 (fun H locs Z => ?_)
          refine lv_lload hx hb dX11_bestFrom_80 (lv_at hl 0 rfl) ?_
          refine lv_ladd hx hb dX11_bestFrom_82 ?_
          obtain ⟨v16, ev16, h⟩ := lb h
          refine tn_l ev16 ?_
          refine lv_lstore (lv' := [(4, .long v16), (8, .long v13), (0, .ref (ad 0)), (1, .int x1), (2, .int x2), (3, .int x3), (6, .int x6), (7, .int x7)]) hx hb dX11_bestFrom_83 hl (by decide) rfl (fun ls hl => ?_)
          exact w_X11_bestFrom_85 C hR ih hk8 Z (lv_sub hl [2, 3, 4, 5, 0, 6, 7] rfl) h
set_option maxRecDepth 20000 in
theorem w_X11_bestFrom_8 {p : Program} {l : Launch} {e : Env} {s : State} {m : MethodId} {args : Array Value} {below : List Frame} {meth : Method} {c : Code} {Q : State → Prop} {D : va_G} {kc : Nat → ClassId} {ad : Nat → Nat} {A : Nat → Prop} (C : Cx eM p s m args c cX11_bestFrom 10 RX11 D kc A) {R : Int64} {x1 : Int32} {x2 : Int32} {x3 : Int32} {σ : St} (hR : RTl 0 0 p l e r_X11_bestFrom s m args below meth c cX11_bestFrom tM kc ad D A Q R σ) : ∀ (n : Nat) (x4 : Int64) (x6 : Int32) (H : Heap) (locs : List Loc) (ls : Array Slot), Dy tM kc ad D A s.heap σ H locs → lv_has ls 10 [(0, .ref (ad 0)), (1, .int x1), (2, .int x2), (3, .int x3), (4, .long x4), (6, .int x6)] → f_X11_bestFrom_8 x1 x2 x3 σ n x4 x6 = some R → W p l e r_X11_bestFrom s m args below meth c H locs 0 0 Q (F0 m 8 ls []) := by
  have hx := C.1.1
  have hb := C.1.2.1
  intro n
  induction n with
  | zero =>
    intro x4 x6 H locs ls Z hl h
    exact absurd (show none = some R from h) (by simp)
  | succ n ih =>
    intro x4 x6 H locs ls Z hl h
    rw [f_X11_bestFrom_8] at h
    refine lv_iload hx hb dX11_bestFrom_8 (lv_at hl 5 rfl) ?_
    refine lv_iload_n hx hb dX11_bestFrom_10 rfl (lv_at hl 2 rfl) ?_
    refine lv_icmp_gt (tgt := 97) hx hb dX11_bestFrom_11 (by decide) (fun c11 => ?_) (fun c11 => ?_)
    · have h := ip h c11
      refine lv_lload hx hb dX11_bestFrom_97 (lv_at hl 4 rfl) ?_
      obtain rfl := Option.some.inj h
      exact hR _ _ _ _ Z dX11_bestFrom_99
    · have h := im h c11
      refine lv_iconst (v := 0) hx hb dX11_bestFrom_14 (by decide) ?_
      refine lv_istore (lv' := [(7, .int 0), (0, .ref (ad 0)), (1, .int x1), (2, .int x2), (3, .int x3), (4, .long x4), (6, .int x6)]) hx hb dX11_bestFrom_15 hl (by decide) rfl (fun ls hl => ?_)
      exact w_X11_bestFrom_17 C hR ih _ _ _ _ _ _ Z (lv_sub hl [1, 2, 3, 4, 5, 6, 0] rfl) h
set_option maxRecDepth 20000 in
theorem w_X11_bestFrom_0 {p : Program} {l : Launch} {e : Env} {s : State} {m : MethodId} {args : Array Value} {below : List Frame} {meth : Method} {c : Code} {Q : State → Prop} {D : va_G} {kc : Nat → ClassId} {ad : Nat → Nat} {A : Nat → Prop} (C : Cx eM p s m args c cX11_bestFrom 10 RX11 D kc A) {R : Int64} {x1 : Int32} {x2 : Int32} {x3 : Int32} {σ : St} (hR : RTl 0 0 p l e r_X11_bestFrom s m args below meth c cX11_bestFrom tM kc ad D A Q R σ) {H : Heap} {locs : List Loc} {ls : Array Slot} (Z : Dy tM kc ad D A s.heap σ H locs) (hl : lv_has ls 10 [(0, .ref (ad 0)), (1, .int x1), (2, .int x2), (3, .int x3)]) (h : f_X11_bestFrom x1 x2 x3 σ = some R) : W p l e r_X11_bestFrom s m args below meth c H locs 0 0 Q (F0 m 0 ls []) := by
  have hx := C.1.1
  have hb := C.1.2.1
  unfold f_X11_bestFrom at h
  refine lv_ldc2 (v := 1000000000000) hx hb C.1.2.2.2.1 (C.1.2.2.2.2 _ wDL_X11_609) dX11_bestFrom_0 ?_
  refine lv_lstore (lv' := [(4, .long 1000000000000), (0, .ref (ad 0)), (1, .int x1), (2, .int x2), (3, .int x3)]) hx hb dX11_bestFrom_3 hl (by decide) rfl (fun ls hl => ?_)
  refine lv_iconst (v := 0) hx hb dX11_bestFrom_5 (by decide) ?_
  refine lv_istore (lv' := [(6, .int 0), (4, .long 1000000000000), (0, .ref (ad 0)), (1, .int x1), (2, .int x2), (3, .int x3)]) hx hb dX11_bestFrom_6 hl (by decide) rfl (fun ls hl => ?_)
  exact w_X11_bestFrom_8 C hR _ _ _ _ _ _ Z (lv_sub hl [2, 3, 4, 5, 1, 0] rfl) h
theorem k_X11_bestFrom {l : Launch} {kc : Nat → ClassId} {ad : Nat → Nat} {D : va_G} {x1 : Int32} {x2 : Int32} {x3 : Int32} {σ : St} {R : Int64} (h : f_X11_bestFrom x1 x2 x3 σ = some R) : KC eM tM kc ad D l yX11_bestFrom (.code yX11_bestFrom cX11_bestFrom 10 (some .long)) r_X11_bestFrom [.ref (ad 0), .int x1, .int x2, .int x3] (some (.long R)) σ σ := by
  refine g_enter (by decide) (Nat.le_of_ble_eq_true rfl) ?_
  intro p e s m args below meth c A hA C hr hlocks Z ls hl
  have hl : lv_has ls 10 [(0, .ref (ad 0)), (1, .int x1), (2, .int x2), (3, .int x3)] := hl
  exact w_X11_bestFrom_0 C (g_RTl C.1.1 C.1.2.1 hr hlocks hA)  Z hl h
def r_X11_gives : Room := { frames := 2, cells := 0, slots := 0, locals := 47 }
set_option maxRecDepth 20000 in
theorem w_X11_gives_78 {p : Program} {l : Launch} {e : Env} {s : State} {m : MethodId} {args : Array Value} {below : List Frame} {meth : Method} {c : Code} {Q : State → Prop} {D : va_G} {kc : Nat → ClassId} {ad : Nat → Nat} {A : Nat → Prop} (C : Cx eM p s m args c cX11_gives 8 RX11 D kc A) {R : St} {x1 : Int32} {x4 : Int32} {x5 : Int32} {σ : St} (hR : RTv 0 0 p l e r_X11_gives s m args below meth c cX11_gives tM kc ad D A Q R) {H : Heap} {locs : List Loc} {ls : Array Slot} (Z : Dy tM kc ad D A s.heap σ H locs) (hl : lv_has ls 8 [(0, .ref (ad 0)), (1, .int x1), (4, .int x4), (5, .int x5)]) (h : f_X11_gives_78 x1 x4 x5 σ = some R) : W p l e r_X11_gives s m args below meth c H locs 0 0 Q (F0 m 78 ls []) := by
  have hx := C.1.1
  have hb := C.1.2.1
  unfold f_X11_gives_78 at h
  refine lv_aload_n hx hb dX11_gives_78 rfl (lv_at hl 0 rfl) ?_
  refine rg_X11_225 C Z dX11_gives_79 ?_
  refine lv_iload_n hx hb dX11_gives_82 rfl (lv_at hl 1 rfl) ?_
  refine lv_iload hx hb dX11_gives_83 (lv_at hl 2 rfl) ?_
  obtain ⟨σ18, hσ18, h⟩ := ob h
  refine g_iast C Z iaM61 hσ18 dX11_gives_85 (fun H locs Z => ?_)
  refine lv_aload_n hx hb dX11_gives_86 rfl (lv_at hl 0 rfl) ?_
  refine rg_X11_228 C Z dX11_gives_87 ?_
  refine lv_iload_n hx hb dX11_gives_90 rfl (lv_at hl 1 rfl) ?_
  refine lv_iload hx hb dX11_gives_91 (lv_at hl 3 rfl) ?_
  obtain ⟨σ19, hσ19, h⟩ := ob h
  refine g_iast C Z iaM62 hσ19 dX11_gives_93 (fun H locs Z => ?_)
  obtain rfl := Option.some.inj h
  exact hR _ _ _ _ Z dX11_gives_94
set_option maxRecDepth 20000 in
theorem w_X11_gives_95 {p : Program} {l : Launch} {e : Env} {s : State} {m : MethodId} {args : Array Value} {below : List Frame} {meth : Method} {c : Code} {Q : State → Prop} {D : va_G} {kc : Nat → ClassId} {ad : Nat → Nat} {A : Nat → Prop} (C : Cx eM p s m args c cX11_gives 8 RX11 D kc A) {R : St} {x1 : Int32} {x2 : Int32} {x3 : Int32} {x4 : Int32} {x5 : Int32} {σ : St} (hR : RTv 0 0 p l e r_X11_gives s m args below meth c cX11_gives tM kc ad D A Q R) {k12 : Int32 → Option (St)} {k3 : Int32 → Option (St)} (hk12 : ∀ (x5 : Int32) (H : Heap) (locs : List Loc) (ls : Array Slot), Dy tM kc ad D A s.heap σ H locs → lv_has ls 8 [(0, .ref (ad 0)), (1, .int x1), (2, .int x2), (3, .int x3), (4, .int x4), (5, .int x5)] → k12 x5 = some R → W p l e r_X11_gives s m args below meth c H locs 0 0 Q (F0 m 12 ls [])) (hk3 : ∀ (x4 : Int32) (H : Heap) (locs : List Loc) (ls : Array Slot), Dy tM kc ad D A s.heap σ H locs → lv_has ls 8 [(0, .ref (ad 0)), (1, .int x1), (2, .int x2), (3, .int x3), (4, .int x4)] → k3 x4 = some R → W p l e r_X11_gives s m args below meth c H locs 0 0 Q (F0 m 3 ls [])) {H : Heap} {locs : List Loc} {ls : Array Slot} (Z : Dy tM kc ad D A s.heap σ H locs) (hl : lv_has ls 8 [(0, .ref (ad 0)), (1, .int x1), (2, .int x2), (3, .int x3), (4, .int x4), (5, .int x5)]) (h : f_X11_gives_95 x1 x2 x3 x4 x5 σ k12 k3 = some R) : W p l e r_X11_gives s m args below meth c H locs 0 0 Q (F0 m 95 ls []) := by
  have hx := C.1.1
  have hb := C.1.2.1
  unfold f_X11_gives_95 at h
  obtain ⟨v20, ev20, h⟩ := lb h
  refine lv_iinc (v := v20) (lv' := [(5, .int v20), (0, .ref (ad 0)), (1, .int x1), (2, .int x2), (3, .int x3), (4, .int x4)]) hx hb dX11_gives_95 hl (k := 5) rfl (by rw [ev20]; rfl) (by decide) rfl (fun ls hl => ?_)
  refine lv_goto (tgt := 12) hx hb dX11_gives_98 (by decide) ?_
  exact hk12 _ _ _ _ Z (lv_sub hl [1, 2, 3, 4, 5, 0] rfl) h
set_option maxRecDepth 20000 in
theorem w_X11_gives_101 {p : Program} {l : Launch} {e : Env} {s : State} {m : MethodId} {args : Array Value} {below : List Frame} {meth : Method} {c : Code} {Q : State → Prop} {D : va_G} {kc : Nat → ClassId} {ad : Nat → Nat} {A : Nat → Prop} (C : Cx eM p s m args c cX11_gives 8 RX11 D kc A) {R : St} {x1 : Int32} {x2 : Int32} {x3 : Int32} {x4 : Int32} {σ : St} (hR : RTv 0 0 p l e r_X11_gives s m args below meth c cX11_gives tM kc ad D A Q R) {k3 : Int32 → Option (St)} (hk3 : ∀ (x4 : Int32) (H : Heap) (locs : List Loc) (ls : Array Slot), Dy tM kc ad D A s.heap σ H locs → lv_has ls 8 [(0, .ref (ad 0)), (1, .int x1), (2, .int x2), (3, .int x3), (4, .int x4)] → k3 x4 = some R → W p l e r_X11_gives s m args below meth c H locs 0 0 Q (F0 m 3 ls [])) {H : Heap} {locs : List Loc} {ls : Array Slot} (Z : Dy tM kc ad D A s.heap σ H locs) (hl : lv_has ls 8 [(0, .ref (ad 0)), (1, .int x1), (2, .int x2), (3, .int x3), (4, .int x4)]) (h : f_X11_gives_101 x1 x2 x3 x4 σ k3 = some R) : W p l e r_X11_gives s m args below meth c H locs 0 0 Q (F0 m 101 ls []) := by
  have hx := C.1.1
  have hb := C.1.2.1
  unfold f_X11_gives_101 at h
  obtain ⟨v21, ev21, h⟩ := lb h
  refine lv_iinc (v := v21) (lv' := [(4, .int v21), (0, .ref (ad 0)), (1, .int x1), (2, .int x2), (3, .int x3)]) hx hb dX11_gives_101 hl (k := 4) rfl (by rw [ev21]; rfl) (by decide) rfl (fun ls hl => ?_)
  refine lv_goto (tgt := 3) hx hb dX11_gives_104 (by decide) ?_
  exact hk3 _ _ _ _ Z (lv_sub hl [1, 2, 3, 4, 0] rfl) h
set_option maxRecDepth 20000 in
theorem w_X11_gives_12 {p : Program} {l : Launch} {e : Env} {s : State} {m : MethodId} {args : Array Value} {below : List Frame} {meth : Method} {c : Code} {Q : State → Prop} {D : va_G} {kc : Nat → ClassId} {ad : Nat → Nat} {A : Nat → Prop} (C : Cx eM p s m args c cX11_gives 8 RX11 D kc A) {R : St} {x1 : Int32} {x2 : Int32} {x3 : Int32} {x4 : Int32} {σ : St} (hR : RTv 0 0 p l e r_X11_gives s m args below meth c cX11_gives tM kc ad D A Q R) {k3 : Int32 → Option (St)} (hk3 : ∀ (x4 : Int32) (H : Heap) (locs : List Loc) (ls : Array Slot), Dy tM kc ad D A s.heap σ H locs → lv_has ls 8 [(0, .ref (ad 0)), (1, .int x1), (2, .int x2), (3, .int x3), (4, .int x4)] → k3 x4 = some R → W p l e r_X11_gives s m args below meth c H locs 0 0 Q (F0 m 3 ls [])) : ∀ (n : Nat) (x5 : Int32) (H : Heap) (locs : List Loc) (ls : Array Slot), Dy tM kc ad D A s.heap σ H locs → lv_has ls 8 [(0, .ref (ad 0)), (1, .int x1), (2, .int x2), (3, .int x3), (4, .int x4), (5, .int x5)] → f_X11_gives_12 x1 x2 x3 x4 σ k3 n x5 = some R → W p l e r_X11_gives s m args below meth c H locs 0 0 Q (F0 m 12 ls []) := by
  have hx := C.1.1
  have hb := C.1.2.1
  intro n
  induction n with
  | zero =>
    intro x5 H locs ls Z hl h
    exact absurd (show none = some R from h) (by simp)
  | succ n ih =>
    intro x5 H locs ls Z hl h
    rw [f_X11_gives_12] at h
    refine lv_iload hx hb dX11_gives_12 (lv_at hl 5 rfl) ?_
    refine lv_iload_n hx hb dX11_gives_14 rfl (lv_at hl 3 rfl) ?_
    refine lv_icmp_gt (tgt := 101) hx hb dX11_gives_15 (by decide) (fun c15 => ?_) (fun c15 => ?_)
    · have h := ip h c15
      exact w_X11_gives_101 C hR hk3 Z (lv_sub hl [0, 1, 2, 3, 4] rfl) h
    · have h := im h c15
      refine lv_aload_n hx hb dX11_gives_18 rfl (lv_at hl 0 rfl) ?_
      refine rg_X11_222 C Z dX11_gives_19 ?_
      refine lv_iload_n hx hb dX11_gives_22 rfl (lv_at hl 1 rfl) ?_
      refine lv_iconst (v := 1) hx hb dX11_gives_23 (by decide) ?_
      refine lv_iadd hx hb dX11_gives_24 ?_
      refine lv_iload_n hx hb dX11_gives_25 rfl (lv_at hl 2 rfl) ?_
      refine lv_iload hx hb dX11_gives_26 (lv_at hl 4 rfl) ?_
      refine lv_isub hx hb dX11_gives_28 ?_
      refine lv_iload_n hx hb dX11_gives_29 rfl (lv_at hl 3 rfl) ?_
      refine lv_iload hx hb dX11_gives_30 (lv_at hl 5 rfl) ?_
      refine lv_isub hx hb dX11_gives_32 ?_
      refine g_callSi eM_ok C Z (k_X11_place (x1 + 1) (x2 - x4) (x3 - x5) σ) lk_X11_611 hl (by decide) rfl (Nat.le_of_ble_eq_true rfl) (rest := [.ref (ad 60)]) rfl dX11_gives_33 (fun H locs Z => ?_)
      obtain ⟨v15, hv15, h⟩ := ob h
      refine g_lald C Z iaM60 hv15 dX11_gives_36 ?_
      refine lv_lstore (lv' := [(6, .long v15), (0, .ref (ad 0)), (1, .int x1), (2, .int x2), (3, .int x3), (4, .int x4), (5, .int x5)]) hx hb dX11_gives_37 hl (by decide) rfl (fun ls hl => ?_)
      refine lv_lload hx hb dX11_gives_39 (lv_at hl 0 rfl) ?_
      refine lv_ldc2 (v := 1000000000000) hx hb C.1.2.2.2.1 (C.1.2.2.2.2 _ wDL_X11_609) dX11_gives_41 ?_
      refine g_lge (tgt := 95) hx hb dX11_gives_44 dX11_gives_45 (by decide) (fun c45 => ?_) (fun c45 => ?_)
      · have h := ip h c45
        exact w_X11_gives_95 C hR ih hk3 Z (lv_sub hl [1, 2, 3, 4, 5, 6] rfl) h
      · have h := im h c45
        refine lv_aload_n hx hb dX11_gives_48 rfl (lv_at hl 1 rfl) ?_
        refine lv_iload_n hx hb dX11_gives_49 rfl (lv_at hl 2 rfl) ?_
        refine lv_iload hx hb dX11_gives_50 (lv_at hl 5 rfl) ?_
        refine lv_iload hx hb dX11_gives_52 (lv_at hl 6 rfl) ?_
        obtain ⟨v16, hv16, h⟩ := ob h
        refine g_callVl eM_ok C Z (k_X11_worth hv16) lk_X11_614 (by decide) rfl rfl hl (by decide) rfl (Nat.le_of_ble_eq_true rfl) (rest := []) rfl dX11_gives_54 (fun H locs Z => ?_)
        refine lv_lload hx hb dX11_gives_57 (lv_at hl 0 rfl) ?_
        refine lv_ladd hx hb dX11_gives_59 ?_
        refine lv_aload_n hx hb dX11_gives_60 rfl (lv_at hl 1 rfl) ?_
        refine rg_X11_222 C Z dX11_gives_61 ?_
        refine lv_iload_n hx hb dX11_gives_64 rfl (lv_at hl 2 rfl) ?_
        refine lv_iload_n hx hb dX11_gives_65 rfl (lv_at hl 3 rfl) ?_
        refine lv_iload_n hx hb dX11_gives_66 rfl (lv_at hl 4 rfl) ?_
        refine g_callSi eM_ok C Z (k_X11_place x1 x2 x3 σ) lk_X11_611 hl (by decide) rfl (Nat.le_of_ble_eq_true rfl) (rest := [.ref (ad 60), .long (v16 + v15)]) rfl dX11_gives_67 (fun H locs Z => ?_)
        obtain ⟨v17, hv17, h⟩ := ob h
        refine g_lald C Z iaM60 hv17 dX11_gives_70 ?_
        refine g_leq (tgt := 78) hx hb dX11_gives_71 dX11_gives_72 (by decide) (fun c72 => ?_) (fun c72 => ?_)
        · have h := ip h c72
          exact w_X11_gives_78 C hR Z (lv_sub hl [1, 2, 5, 6] rfl) h
        · have h := im h c72
          refine lv_goto (tgt := 95) hx hb dX11_gives_75 (by decide) ?_
          exact w_X11_gives_95 C hR ih hk3 Z (lv_sub hl [1, 2, 3, 4, 5, 6] rfl) h
set_option maxRecDepth 20000 in
theorem w_X11_gives_3 {p : Program} {l : Launch} {e : Env} {s : State} {m : MethodId} {args : Array Value} {below : List Frame} {meth : Method} {c : Code} {Q : State → Prop} {D : va_G} {kc : Nat → ClassId} {ad : Nat → Nat} {A : Nat → Prop} (C : Cx eM p s m args c cX11_gives 8 RX11 D kc A) {R : St} {x1 : Int32} {x2 : Int32} {x3 : Int32} {σ : St} (hR : RTv 0 0 p l e r_X11_gives s m args below meth c cX11_gives tM kc ad D A Q R) : ∀ (n : Nat) (x4 : Int32) (H : Heap) (locs : List Loc) (ls : Array Slot), Dy tM kc ad D A s.heap σ H locs → lv_has ls 8 [(0, .ref (ad 0)), (1, .int x1), (2, .int x2), (3, .int x3), (4, .int x4)] → f_X11_gives_3 x1 x2 x3 σ n x4 = some R → W p l e r_X11_gives s m args below meth c H locs 0 0 Q (F0 m 3 ls []) := by
  have hx := C.1.1
  have hb := C.1.2.1
  intro n
  induction n with
  | zero =>
    intro x4 H locs ls Z hl h
    exact absurd (show none = some R from h) (by simp)
  | succ n ih =>
    intro x4 H locs ls Z hl h
    rw [f_X11_gives_3] at h
    refine lv_iload hx hb dX11_gives_3 (lv_at hl 4 rfl) ?_
    refine lv_iload_n hx hb dX11_gives_5 rfl (lv_at hl 2 rfl) ?_
    refine lv_icmp_gt (tgt := 107) hx hb dX11_gives_6 (by decide) (fun c6 => ?_) (fun c6 => ?_)
    · have h := ip h c6
      obtain rfl := Option.some.inj h
      exact hR _ _ _ _ Z dX11_gives_107
    · have h := im h c6
      refine lv_iconst (v := 0) hx hb dX11_gives_9 (by decide) ?_
      refine lv_istore (lv' := [(5, .int 0), (0, .ref (ad 0)), (1, .int x1), (2, .int x2), (3, .int x3), (4, .int x4)]) hx hb dX11_gives_10 hl (by decide) rfl (fun ls hl => ?_)
      exact w_X11_gives_12 C hR ih _ _ _ _ _ Z (lv_sub hl [1, 2, 3, 4, 5, 0] rfl) h
set_option maxRecDepth 20000 in
theorem w_X11_gives_0 {p : Program} {l : Launch} {e : Env} {s : State} {m : MethodId} {args : Array Value} {below : List Frame} {meth : Method} {c : Code} {Q : State → Prop} {D : va_G} {kc : Nat → ClassId} {ad : Nat → Nat} {A : Nat → Prop} (C : Cx eM p s m args c cX11_gives 8 RX11 D kc A) {R : St} {x1 : Int32} {x2 : Int32} {x3 : Int32} {σ : St} (hR : RTv 0 0 p l e r_X11_gives s m args below meth c cX11_gives tM kc ad D A Q R) {H : Heap} {locs : List Loc} {ls : Array Slot} (Z : Dy tM kc ad D A s.heap σ H locs) (hl : lv_has ls 8 [(0, .ref (ad 0)), (1, .int x1), (2, .int x2), (3, .int x3)]) (h : f_X11_gives x1 x2 x3 σ = some R) : W p l e r_X11_gives s m args below meth c H locs 0 0 Q (F0 m 0 ls []) := by
  have hx := C.1.1
  have hb := C.1.2.1
  unfold f_X11_gives at h
  refine lv_iconst (v := 0) hx hb dX11_gives_0 (by decide) ?_
  refine lv_istore (lv' := [(4, .int 0), (0, .ref (ad 0)), (1, .int x1), (2, .int x2), (3, .int x3)]) hx hb dX11_gives_1 hl (by decide) rfl (fun ls hl => ?_)
  exact w_X11_gives_3 C hR _ _ _ _ _ Z (lv_sub hl [1, 2, 3, 4, 0] rfl) h
theorem k_X11_gives {l : Launch} {kc : Nat → ClassId} {ad : Nat → Nat} {D : va_G} {x1 : Int32} {x2 : Int32} {x3 : Int32} {σ : St} {R : St} (h : f_X11_gives x1 x2 x3 σ = some R) : KC eM tM kc ad D l yX11_gives (.code yX11_gives cX11_gives 8 none) r_X11_gives [.ref (ad 0), .int x1, .int x2, .int x3] none σ R := by
  refine g_enter (by decide) (Nat.le_of_ble_eq_true rfl) ?_
  intro p e s m args below meth c A hA C hr hlocks Z ls hl
  have hl : lv_has ls 8 [(0, .ref (ad 0)), (1, .int x1), (2, .int x2), (3, .int x3)] := hl
  exact w_X11_gives_0 C (g_RTv C.1.1 C.1.2.1 hr hlocks hA)  Z hl h
