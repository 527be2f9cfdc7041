def r_X11_escort : Room := { frames := 3, cells := 0, slots := 0, locals := 76 }
set_option maxRecDepth 20000 in
theorem w_X11_escort_74 {p : Program} {l : Launch} {e : Env} {s : State} {m : MethodId} {args : Array Value} {below : List Frame} {meth : Method} {c : Code} {Q : State → Prop} {D : va_G} {kc : Nat → ClassId} {ad : Nat → Nat} {A : Nat → Prop} (C : Cx eM p s m args c cX11_escort 7 RX11 D kc A) {R : Int32 × St} {x1 : Int32} {x2 : Int32} {x3 : Int32} {x4 : Int32} {y1 : Int32} {y2 : Int64} {σ : St} (hR : RTi 0 0 p l e r_X11_escort s m args below meth c cX11_escort tM kc ad D A Q .int R.1 R.2) {k37 : Int32 → St → Option (Int32 × St)} {k28 : Int32 → St → Option (Int32 × St)} (hk37 : ∀ (x4 : Int32) (σ : St) (H : Heap) (locs : List Loc) (ls : Array Slot), Dy tM kc ad D A s.heap σ H locs → lv_has ls 7 [(0, .ref (ad 0)), (1, .int x1), (2, .int x2), (3, .int x3), (4, .int x4)] → k37 x4 σ = some R → W p l e r_X11_escort s m args below meth c H locs 0 0 Q (F0 m 37 ls [])) (hk28 : ∀ (x3 : Int32) (σ : St) (H : Heap) (locs : List Loc) (ls : Array Slot), Dy tM kc ad D A s.heap σ H locs → lv_has ls 7 [(0, .ref (ad 0)), (1, .int x1), (2, .int x2), (3, .int x3)] → k28 x3 σ = some R → W p l e r_X11_escort s m args below meth c H locs 0 0 Q (F0 m 28 ls [])) {H : Heap} {locs : List Loc} {ls : Array Slot} (Z : Dy tM kc ad D A s.heap σ H locs) (hl : lv_has ls 7 [(0, .ref (ad 0)), (1, .int x1), (2, .int x2), (3, .int x3), (4, .int x4)]) (h : f_X11_escort_74 x1 x2 x3 x4 y1 y2 σ k37 k28 = some R) : W p l e r_X11_escort s m args below meth c H locs 0 0 Q (F0 m 74 ls [.long y2, .int y1, .ref (ad 60)]) := by
  have hx := C.1.1
  have hb := C.1.2.1
  unfold f_X11_escort_74 at h
  obtain ⟨σ53, hσ53, h⟩ := ob h
  refine g_last C Z iaM60 hσ53 dX11_escort_74 (fun H locs Z => ?_)
  obtain ⟨v54, ev54, h⟩ := lb h
  refine lv_iinc (v := v54) (lv' := [(4, .int v54), (0, .ref (ad 0)), (1, .int x1), (2, .int x2), (3, .int x3)]) hx hb dX11_escort_75 hl (k := 4) rfl (by rw [ev54]; rfl) (by decide) rfl (fun ls hl => ?_)
  refine lv_goto (tgt := 37) hx hb dX11_escort_78 (by decide) ?_
  exact hk37 _ _ _ _ _ Z (lv_sub hl [1, 2, 3, 4, 0] rfl) h
set_option maxRecDepth 20000 in
theorem w_X11_escort_71 {p : Program} {l : Launch} {e : Env} {s : State} {m : MethodId} {args : Array Value} {below : List Frame} {meth : Method} {c : Code} {Q : State → Prop} {D : va_G} {kc : Nat → ClassId} {ad : Nat → Nat} {A : Nat → Prop} (C : Cx eM p s m args c cX11_escort 7 RX11 D kc A) {R : Int32 × St} {x1 : Int32} {x2 : Int32} {x3 : Int32} {x4 : Int32} {y1 : Int32} {σ : St} (hR : RTi 0 0 p l e r_X11_escort s m args below meth c cX11_escort tM kc ad D A Q .int R.1 R.2) {k37 : Int32 → St → Option (Int32 × St)} {k28 : Int32 → St → Option (Int32 × St)} (hk37 : ∀ (x4 : Int32) (σ : St) (H : Heap) (locs : List Loc) (ls : Array Slot), Dy tM kc ad D A s.heap σ H locs → lv_has ls 7 [(0, .ref (ad 0)), (1, .int x1), (2, .int x2), (3, .int x3), (4, .int x4)] → k37 x4 σ = some R → W p l e r_X11_escort s m args below meth c H locs 0 0 Q (F0 m 37 ls [])) (hk28 : ∀ (x3 : Int32) (σ : St) (H : Heap) (locs : List Loc) (ls : Array Slot), Dy tM kc ad D A s.heap σ H locs → lv_has ls 7 [(0, .ref (ad 0)), (1, .int x1), (2, .int x2), (3, .int x3)] → k28 x3 σ = some R → W p l e r_X11_escort s m args below meth c H locs 0 0 Q (F0 m 28 ls [])) {H : Heap} {locs : List Loc} {ls : Array Slot} (Z : Dy tM kc ad D A s.heap σ H locs) (hl : lv_has ls 7 [(0, .ref (ad 0)), (1, .int x1), (2, .int x2), (3, .int x3), (4, .int x4)]) (h : f_X11_escort_71 x1 x2 x3 x4 y1 σ k37 k28 = some R) : W p l e r_X11_escort s m args below meth c H locs 0 0 Q (F0 m 71 ls [.int y1, .ref (ad 60)]) := by
  have hx := C.1.1
  have hb := C.1.2.1
  unfold f_X11_escort_71 at h
  refine lv_ldc2 (v := 1000000000000) hx hb C.1.2.2.2.1 (C.1.2.2.2.2 _ wDL_X11_609) dX11_escort_71 ?_
  exact w_X11_escort_74 C hR hk37 hk28 Z (lv_sub hl [0, 1, 2, 3, 4] rfl) h
set_option maxRecDepth 20000 in
theorem w_X11_escort_81 {p : Program} {l : Launch} {e : Env} {s : State} {m : MethodId} {args : Array Value} {below : List Frame} {meth : Method} {c : Code} {Q : State → Prop} {D : va_G} {kc : Nat → ClassId} {ad : Nat → Nat} {A : Nat → Prop} (C : Cx eM p s m args c cX11_escort 7 RX11 D kc A) {R : Int32 × St} {x1 : Int32} {x2 : Int32} {x3 : Int32} {σ : St} (hR : RTi 0 0 p l e r_X11_escort s m args below meth c cX11_escort tM kc ad D A Q .int R.1 R.2) {k28 : Int32 → St → Option (Int32 × St)} (hk28 : ∀ (x3 : Int32) (σ : St) (H : Heap) (locs : List Loc) (ls : Array Slot), Dy tM kc ad D A s.heap σ H locs → lv_has ls 7 [(0, .ref (ad 0)), (1, .int x1), (2, .int x2), (3, .int x3)] → k28 x3 σ = some R → W p l e r_X11_escort s m args below meth c H locs 0 0 Q (F0 m 28 ls [])) {H : Heap} {locs : List Loc} {ls : Array Slot} (Z : Dy tM kc ad D A s.heap σ H locs) (hl : lv_has ls 7 [(0, .ref (ad 0)), (1, .int x1), (2, .int x2), (3, .int x3)]) (h : f_X11_escort_81 x1 x2 x3 σ k28 = some R) : W p l e r_X11_escort s m args below meth c H locs 0 0 Q (F0 m 81 ls []) := by
  have hx := C.1.1
  have hb := C.1.2.1
  unfold f_X11_escort_81 at h
  obtain ⟨v55, ev55, h⟩ := lb h
  refine lv_iinc (v := v55) (lv' := [(3, .int v55), (0, .ref (ad 0)), (1, .int x1), (2, .int x2)]) hx hb dX11_escort_81 hl (k := 3) rfl (by rw [ev55]; rfl) (by decide) rfl (fun ls hl => ?_)
  refine lv_goto (tgt := 28) hx hb dX11_escort_84 (by decide) ?_
  exact hk28 _ _ _ _ _ Z (lv_sub hl [1, 2, 3, 0] rfl) h
set_option maxRecDepth 20000 in
theorem w_X11_escort_37 {p : Program} {l : Launch} {e : Env} {s : State} {m : MethodId} {args : Array Value} {below : List Frame} {meth : Method} {c : Code} {Q : State → Prop} {D : va_G} {kc : Nat → ClassId} {ad : Nat → Nat} {A : Nat → Prop} (C : Cx eM p s m args c cX11_escort 7 RX11 D kc A) {R : Int32 × St} {x1 : Int32} {x2 : Int32} {x3 : Int32} (hR : RTi 0 0 p l e r_X11_escort s m args below meth c cX11_escort tM kc ad D A Q .int R.1 R.2) {k28 : Int32 → St → Option (Int32 × St)} (hk28 : ∀ (x3 : Int32) (σ : St) (H : Heap) (locs : List Loc) (ls : Array Slot), Dy tM kc ad D A s.heap σ H locs → lv_has ls 7 [(0, .ref (ad 0)), (1, .int x1), (2, .int x2), (3, .int x3)] → k28 x3 σ = some R → W p l e r_X11_escort s m args below meth c H locs 0 0 Q (F0 m 28 ls [])) : ∀ (n : Nat) (x4 : Int32) (σ : St) (H : Heap) (locs : List Loc) (ls : Array Slot), Dy tM kc ad D A s.heap σ H locs → lv_has ls 7 [(0, .ref (ad 0)), (1, .int x1), (2, .int x2), (3, .int x3), (4, .int x4)] → f_X11_escort_37 x1 x2 x3 k28 n x4 σ = some R → W p l e r_X11_escort s m args below meth c H locs 0 0 Q (F0 m 37 ls []) := by
  have hx := C.1.1
  have hb := C.1.2.1
  intro n
  induction n with
  | zero =>
    intro x4 σ H locs ls Z hl h
    exact absurd (show none = some R from h) (by simp)
  | succ n ih =>
    intro x4 σ H locs ls Z hl h
    rw [f_X11_escort_37] at h
    refine lv_iload hx hb dX11_escort_37 (lv_at hl 4 rfl) ?_
    refine lv_bipush (v := 6) hx hb dX11_escort_39 (by decide) ?_
    refine lv_icmp_gt (tgt := 81) hx hb dX11_escort_41 (by decide) (fun c41 => ?_) (fun c41 => ?_)
    · have h := ip h c41
      exact w_X11_escort_81 C hR hk28 Z (lv_sub hl [0, 1, 2, 3] rfl) h
    · have h := im h c41
      refine lv_aload_n hx hb dX11_escort_44 rfl (lv_at hl 0 rfl) ?_
      refine rg_X11_222 C Z dX11_escort_45 ?_
      refine lv_aload_n hx hb dX11_escort_48 rfl (lv_at hl 0 rfl) ?_
      refine rg_X11_596 C Z dX11_escort_49 ?_
      refine lv_iload_n hx hb dX11_escort_52 rfl (lv_at hl 3 rfl) ?_
      refine lv_iload hx hb dX11_escort_53 (lv_at hl 4 rfl) ?_
      refine g_callSi eM_ok C Z (k_X11_place (gF σ 83) x3 x4 σ) lk_X11_611 hl (by decide) rfl (Nat.le_of_ble_eq_true rfl) (rest := [.ref (ad 60)]) rfl dX11_escort_55 (fun H locs Z => ?_)
      refine lv_iload_n hx hb dX11_escort_58 rfl (lv_at hl 3 rfl) ?_
      refine lv_if_ne (tgt := 71) hx hb dX11_escort_59 (by decide) (fun c59 => ?_) (fun c59 => ?_)
      · have h := im h c59
        exact w_X11_escort_71 C hR ih hk28 Z (lv_sub hl [0, 1, 2, 3, 4] rfl) h
      · have h := ip h c59
        refine lv_iload hx hb dX11_escort_62 (lv_at hl 4 rfl) ?_
        refine lv_if_ne (tgt := 71) hx hb dX11_escort_64 (by decide) (fun c64 => ?_) (fun c64 => ?_)
        · have h := im h c64
          exact w_X11_escort_71 C hR ih hk28 Z (lv_sub hl [0, 1, 2, 3, 4] rfl) h
        · have h := ip h c64
          refine lv_lconst (v := 0) hx hb dX11_escort_67 (by decide) ?_
          refine lv_goto (tgt := 74) hx hb dX11_escort_68 (by decide) ?_
          exact w_X11_escort_74 C hR ih hk28 Z (lv_sub hl [0, 1, 2, 3, 4] rfl) h
set_option maxRecDepth 20000 in
theorem w_X11_escort_144 {p : Program} {l : Launch} {e : Env} {s : State} {m : MethodId} {args : Array Value} {below : List Frame} {meth : Method} {c : Code} {Q : State → Prop} {D : va_G} {kc : Nat → ClassId} {ad : Nat → Nat} {A : Nat → Prop} (C : Cx eM p s m args c cX11_escort 7 RX11 D kc A) {R : Int32 × St} {x1 : Int32} {x2 : Int32} {x3 : Int32} {x4 : Int32} {σ : St} (hR : RTi 0 0 p l e r_X11_escort s m args below meth c cX11_escort tM kc ad D A Q .int R.1 R.2) {k101 : Int32 → St → Option (Int32 × St)} {k94 : Int32 → St → Option (Int32 × St)} (hk101 : ∀ (x4 : Int32) (σ : St) (H : Heap) (locs : List Loc) (ls : Array Slot), Dy tM kc ad D A s.heap σ H locs → lv_has ls 7 [(0, .ref (ad 0)), (1, .int x1), (2, .int x2), (3, .int x3), (4, .int x4)] → k101 x4 σ = some R → W p l e r_X11_escort s m args below meth c H locs 0 0 Q (F0 m 101 ls [])) (hk94 : ∀ (x3 : Int32) (σ : St) (H : Heap) (locs : List Loc) (ls : Array Slot), Dy tM kc ad D A s.heap σ H locs → lv_has ls 7 [(0, .ref (ad 0)), (1, .int x1), (2, .int x2), (3, .int x3)] → k94 x3 σ = some R → W p l e r_X11_escort s m args below meth c H locs 0 0 Q (F0 m 94 ls [])) {H : Heap} {locs : List Loc} {ls : Array Slot} (Z : Dy tM kc ad D A s.heap σ H locs) (hl : lv_has ls 7 [(0, .ref (ad 0)), (1, .int x1), (2, .int x2), (3, .int x3), (4, .int x4)]) (h : f_X11_escort_144 x1 x2 x3 x4 σ k101 k94 = some R) : W p l e r_X11_escort s m args below meth c H locs 0 0 Q (F0 m 144 ls []) := by
  have hx := C.1.1
  have hb := C.1.2.1
  unfold f_X11_escort_144 at h
  obtain ⟨v60, ev60, h⟩ := lb h
  refine lv_iinc (v := v60) (lv' := [(4, .int v60), (0, .ref (ad 0)), (1, .int x1), (2, .int x2), (3, .int x3)]) hx hb dX11_escort_144 hl (k := 4) rfl (by rw [ev60]; rfl) (by decide) rfl (fun ls hl => ?_)
  refine lv_goto (tgt := 101) hx hb dX11_escort_147 (by decide) ?_
  exact hk101 _ _ _ _ _ Z (lv_sub hl [1, 2, 3, 4, 0] rfl) h
set_option maxRecDepth 20000 in
theorem w_X11_escort_110 {p : Program} {l : Launch} {e : Env} {s : State} {m : MethodId} {args : Array Value} {below : List Frame} {meth : Method} {c : Code} {Q : State → Prop} {D : va_G} {kc : Nat → ClassId} {ad : Nat → Nat} {A : Nat → Prop} (C : Cx eM p s m args c cX11_escort 7 RX11 D kc A) {R : Int32 × St} {x1 : Int32} {x2 : Int32} {x3 : Int32} {x4 : Int32} (hR : RTi 0 0 p l e r_X11_escort s m args below meth c cX11_escort tM kc ad D A Q .int R.1 R.2) {k101 : Int32 → St → Option (Int32 × St)} {k94 : Int32 → St → Option (Int32 × St)} (hk101 : ∀ (x4 : Int32) (σ : St) (H : Heap) (locs : List Loc) (ls : Array Slot), Dy tM kc ad D A s.heap σ H locs → lv_has ls 7 [(0, .ref (ad 0)), (1, .int x1), (2, .int x2), (3, .int x3), (4, .int x4)] → k101 x4 σ = some R → W p l e r_X11_escort s m args below meth c H locs 0 0 Q (F0 m 101 ls [])) (hk94 : ∀ (x3 : Int32) (σ : St) (H : Heap) (locs : List Loc) (ls : Array Slot), Dy tM kc ad D A s.heap σ H locs → lv_has ls 7 [(0, .ref (ad 0)), (1, .int x1), (2, .int x2), (3, .int x3)] → k94 x3 σ = some R → W p l e r_X11_escort s m args below meth c H locs 0 0 Q (F0 m 94 ls [])) : ∀ (n : Nat) (x5 : Int32) (σ : St) (H : Heap) (locs : List Loc) (ls : Array Slot), Dy tM kc ad D A s.heap σ H locs → lv_has ls 7 [(0, .ref (ad 0)), (1, .int x1), (2, .int x2), (3, .int x3), (4, .int x4), (5, .int x5)] → f_X11_escort_110 x1 x2 x3 x4 k101 k94 n x5 σ = some R → W p l e r_X11_escort s m args below meth c H locs 0 0 Q (F0 m 110 ls []) := by
  have hx := C.1.1
  have hb := C.1.2.1
  intro n
  induction n with
  | zero =>
    intro x5 σ H locs ls Z hl h
    exact absurd (show none = some R from h) (by simp)
  | succ n ih =>
    intro x5 σ H locs ls Z hl h
    rw [f_X11_escort_110] at h
    refine lv_iload hx hb dX11_escort_110 (lv_at hl 5 rfl) ?_
    refine lv_iload_n hx hb dX11_escort_112 rfl (lv_at hl 2 rfl) ?_
    refine lv_icmp_gt (tgt := 144) hx hb dX11_escort_113 (by decide) (fun c113 => ?_) (fun c113 => ?_)
    · have h := ip h c113
      exact w_X11_escort_144 C hR hk101 hk94 Z (lv_sub hl [0, 1, 2, 3, 4] rfl) h
    · have h := im h c113
      refine lv_aload_n hx hb dX11_escort_116 rfl (lv_at hl 0 rfl) ?_
      refine rg_X11_222 C Z dX11_escort_117 ?_
      refine lv_iload_n hx hb dX11_escort_120 rfl (lv_at hl 3 rfl) ?_
      refine lv_iload hx hb dX11_escort_121 (lv_at hl 4 rfl) ?_
      refine lv_iload hx hb dX11_escort_123 (lv_at hl 5 rfl) ?_
      refine g_callSi eM_ok C Z (k_X11_place x3 x4 x5 σ) lk_X11_611 hl (by decide) rfl (Nat.le_of_ble_eq_true rfl) (rest := [.ref (ad 60)]) rfl dX11_escort_125 (fun H locs Z => ?_)
      refine lv_aload_n hx hb dX11_escort_128 rfl (lv_at hl 0 rfl) ?_
      refine lv_iload_n hx hb dX11_escort_129 rfl (lv_at hl 3 rfl) ?_
      refine lv_iload hx hb dX11_escort_130 (lv_at hl 4 rfl) ?_
      refine lv_iload hx hb dX11_escort_132 (lv_at hl 5 rfl) ?_
      obtain ⟨v57, hv57, h⟩ := ob h
      refine g_callVl eM_ok C Z (k_X11_bestFrom hv57) lk_X11_621 (by decide) rfl rfl hl (by decide) rfl (Nat.le_of_ble_eq_true rfl) (rest := [.int (f_X11_place x3 x4 x5), .ref (ad 60)]) rfl dX11_escort_134 (fun H locs Z => ?_)
      obtain ⟨σ58, hσ58, h⟩ := ob h
      refine g_last C Z iaM60 hσ58 dX11_escort_137 (fun H locs Z => ?_)
      obtain ⟨v59, ev59, h⟩ := lb h
      refine lv_iinc (v := v59) (lv' := [(5, .int v59), (0, .ref (ad 0)), (1, .int x1), (2, .int x2), (3, .int x3), (4, .int x4)]) hx hb dX11_escort_138 hl (k := 5) rfl (by rw [ev59]; rfl) (by decide) rfl (fun ls hl => ?_)
      refine lv_goto (tgt := 110) hx hb dX11_escort_141 (by decide) ?_
      exact ih _ _ _ _ _ Z (lv_sub hl [1, 2, 3, 4, 5, 0] rfl) h
set_option maxRecDepth 20000 in
theorem w_X11_escort_150 {p : Program} {l : Launch} {e : Env} {s : State} {m : MethodId} {args : Array Value} {below : List Frame} {meth : Method} {c : Code} {Q : State → Prop} {D : va_G} {kc : Nat → ClassId} {ad : Nat → Nat} {A : Nat → Prop} (C : Cx eM p s m args c cX11_escort 7 RX11 D kc A) {R : Int32 × St} {x1 : Int32} {x2 : Int32} {x3 : Int32} {σ : St} (hR : RTi 0 0 p l e r_X11_escort s m args below meth c cX11_escort tM kc ad D A Q .int R.1 R.2) {k94 : Int32 → St → Option (Int32 × St)} (hk94 : ∀ (x3 : Int32) (σ : St) (H : Heap) (locs : List Loc) (ls : Array Slot), Dy tM kc ad D A s.heap σ H locs → lv_has ls 7 [(0, .ref (ad 0)), (1, .int x1), (2, .int x2), (3, .int x3)] → k94 x3 σ = some R → W p l e r_X11_escort s m args below meth c H locs 0 0 Q (F0 m 94 ls [])) {H : Heap} {locs : List Loc} {ls : Array Slot} (Z : Dy tM kc ad D A s.heap σ H locs) (hl : lv_has ls 7 [(0, .ref (ad 0)), (1, .int x1), (2, .int x2), (3, .int x3)]) (h : f_X11_escort_150 x1 x2 x3 σ k94 = some R) : W p l e r_X11_escort s m args below meth c H locs 0 0 Q (F0 m 150 ls []) := by
  have hx := C.1.1
  have hb := C.1.2.1
  unfold f_X11_escort_150 at h
  obtain ⟨v61, ev61, h⟩ := lb h
  refine lv_iinc (v := v61) (lv' := [(3, .int v61), (0, .ref (ad 0)), (1, .int x1), (2, .int x2)]) hx hb dX11_escort_150 hl (k := 3) rfl (by rw [ev61]; rfl) (by decide) rfl (fun ls hl => ?_)
  refine lv_goto (tgt := 94) hx hb dX11_escort_153 (by decide) ?_
  exact hk94 _ _ _ _ _ Z (lv_sub hl [1, 2, 3, 0] rfl) h
set_option maxRecDepth 20000 in
theorem w_X11_escort_101 {p : Program} {l : Launch} {e : Env} {s : State} {m : MethodId} {args : Array Value} {below : List Frame} {meth : Method} {c : Code} {Q : State → Prop} {D : va_G} {kc : Nat → ClassId} {ad : Nat → Nat} {A : Nat → Prop} (C : Cx eM p s m args c cX11_escort 7 RX11 D kc A) {R : Int32 × St} {x1 : Int32} {x2 : Int32} {x3 : Int32} (hR : RTi 0 0 p l e r_X11_escort s m args below meth c cX11_escort tM kc ad D A Q .int R.1 R.2) {k94 : Int32 → St → Option (Int32 × St)} (hk94 : ∀ (x3 : Int32) (σ : St) (H : Heap) (locs : List Loc) (ls : Array Slot), Dy tM kc ad D A s.heap σ H locs → lv_has ls 7 [(0, .ref (ad 0)), (1, .int x1), (2, .int x2), (3, .int x3)] → k94 x3 σ = some R → W p l e r_X11_escort s m args below meth c H locs 0 0 Q (F0 m 94 ls [])) : ∀ (n : Nat) (x4 : Int32) (σ : St) (H : Heap) (locs : List Loc) (ls : Array Slot), Dy tM kc ad D A s.heap σ H locs → lv_has ls 7 [(0, .ref (ad 0)), (1, .int x1), (2, .int x2), (3, .int x3), (4, .int x4)] → f_X11_escort_101 x1 x2 x3 k94 n x4 σ = some R → W p l e r_X11_escort s m args below meth c H locs 0 0 Q (F0 m 101 ls []) := by
  have hx := C.1.1
  have hb := C.1.2.1
  intro n
  induction n with
  | zero =>
    intro x4 σ H locs ls Z hl h
    exact absurd (show none = some R from h) (by simp)
  | succ n ih =>
    intro x4 σ H locs ls Z hl h
    rw [f_X11_escort_101] at h
    refine lv_iload hx hb dX11_escort_101 (lv_at hl 4 rfl) ?_
    refine lv_iload_n hx hb dX11_escort_103 rfl (lv_at hl 1 rfl) ?_
    refine lv_icmp_gt (tgt := 150) hx hb dX11_escort_104 (by decide) (fun c104 => ?_) (fun c104 => ?_)
    · have h := ip h c104
      exact w_X11_escort_150 C hR hk94 Z (lv_sub hl [0, 1, 2, 3] rfl) h
    · have h := im h c104
      refine lv_iconst (v := 0) hx hb dX11_escort_107 (by decide) ?_
      refine lv_istore (lv' := [(5, .int 0), (0, .ref (ad 0)), (1, .int x1), (2, .int x2), (3, .int x3), (4, .int x4)]) hx hb dX11_escort_108 hl (by decide) rfl (fun ls hl => ?_)
      exact w_X11_escort_110 C hR ih hk94 _ _ _ _ _ _ Z (lv_sub hl [1, 2, 3, 4, 5, 0] rfl) h
set_option maxRecDepth 20000 in
theorem w_X11_escort_286 {p : Program} {l : Launch} {e : Env} {s : State} {m : MethodId} {args : Array Value} {below : List Frame} {meth : Method} {c : Code} {Q : State → Prop} {D : va_G} {kc : Nat → ClassId} {ad : Nat → Nat} {A : Nat → Prop} (C : Cx eM p s m args c cX11_escort 7 RX11 D kc A) {R : Int32 × St} {x5 : Int32} {σ : St} (hR : RTi 0 0 p l e r_X11_escort s m args below meth c cX11_escort tM kc ad D A Q .int R.1 R.2) {H : Heap} {locs : List Loc} {ls : Array Slot} (Z : Dy tM kc ad D A s.heap σ H locs) (hl : lv_has ls 7 [(0, .ref (ad 0)), (5, .int x5)]) (h : f_X11_escort_286 x5 σ = some R) : W p l e r_X11_escort s m args below meth c H locs 0 0 Q (F0 m 286 ls []) := by
  have hx := C.1.1
  have hb := C.1.2.1
  unfold f_X11_escort_286 at h
  refine lv_aload_n hx hb dX11_escort_286 rfl (lv_at hl 0 rfl) ?_
  refine lv_iconst (v := 1) hx hb dX11_escort_287 (by decide) ?_
  obtain ⟨σ77, eσ77, h⟩ := lb h
  refine rp_X11_631 C Z eσ77 rfl rfl dX11_escort_288 (fun H locs Z => ?_)
  refine lv_aload_n hx hb dX11_escort_291 rfl (lv_at hl 0 rfl) ?_
  refine lv_aload_n hx hb dX11_escort_292 rfl (lv_at hl 0 rfl) ?_
  refine rg_X11_596 C Z dX11_escort_293 ?_
  obtain ⟨σ78, eσ78, h⟩ := lb h
  refine rp_X11_635 C Z eσ78 dX11_escort_296 (fun H locs Z => ?_)
  refine lv_iload hx hb dX11_escort_299 (lv_at hl 1 rfl) ?_
  obtain rfl := Option.some.inj h
  exact hR _ _ _ _ _ Z dX11_escort_301 rfl
set_option maxRecDepth 20000 in
theorem w_X11_escort_193 {p : Program} {l : Launch} {e : Env} {s : State} {m : MethodId} {args : Array Value} {below : List Frame} {meth : Method} {c : Code} {Q : State → Prop} {D : va_G} {kc : Nat → ClassId} {ad : Nat → Nat} {A : Nat → Prop} (C : Cx eM p s m args c cX11_escort 7 RX11 D kc A) {R : Int32 × St} (hR : RTi 0 0 p l e r_X11_escort s m args below meth c cX11_escort tM kc ad D A Q .int R.1 R.2) : ∀ (n : Nat) (x3 : Int32) (x4 : Int32) (x5 : Int32) (x6 : Int32) (σ : St) (H : Heap) (locs : List Loc) (ls : Array Slot), Dy tM kc ad D A s.heap σ H locs → lv_has ls 7 [(0, .ref (ad 0)), (3, .int x3), (4, .int x4), (5, .int x5), (6, .int x6)] → f_X11_escort_193 n x3 x4 x5 x6 σ = some R → W p l e r_X11_escort s m args below meth c H locs 0 0 Q (F0 m 193 ls []) := by
  have hx := C.1.1
  have hb := C.1.2.1
  intro n
  induction n with
  | zero =>
    intro x3 x4 x5 x6 σ H locs ls Z hl h
    exact absurd (show none = some R from h) (by simp)
  | succ n ih =>
    intro x3 x4 x5 x6 σ H locs ls Z hl h
    rw [f_X11_escort_193] at h
    refine lv_iload hx hb dX11_escort_193 (lv_at hl 4 rfl) ?_
    refine lv_aload_n hx hb dX11_escort_195 rfl (lv_at hl 0 rfl) ?_
    refine rg_X11_596 C Z dX11_escort_196 ?_
    refine lv_icmp_ge (tgt := 286) hx hb dX11_escort_199 (by decide) (fun c199 => ?_) (fun c199 => ?_)
    · have h := ip h c199
      exact w_X11_escort_286 C hR Z (lv_sub hl [0, 3] rfl) h
    · have h := im h c199
      refine lv_aload_n hx hb dX11_escort_202 rfl (lv_at hl 0 rfl) ?_
      refine lv_iload hx hb dX11_escort_203 (lv_at hl 4 rfl) ?_
      refine lv_iload_n hx hb dX11_escort_205 rfl (lv_at hl 1 rfl) ?_
      refine lv_iload hx hb dX11_escort_206 (lv_at hl 2 rfl) ?_
      obtain ⟨σ64, hσ64, h⟩ := ob h
      refine g_callVv eM_ok C Z (k_X11_gives hσ64) lk_X11_627 (by decide) rfl rfl hl (by decide) rfl (Nat.le_of_ble_eq_true rfl) (rest := []) rfl dX11_escort_208 (fun H locs Z => ?_)
      refine lv_iload_n hx hb dX11_escort_211 rfl (lv_at hl 1 rfl) ?_
      refine lv_aload_n hx hb dX11_escort_212 rfl (lv_at hl 0 rfl) ?_
      refine rg_X11_225 C Z dX11_escort_213 ?_
      refine lv_iload hx hb dX11_escort_216 (lv_at hl 4 rfl) ?_
      obtain ⟨v65, hv65, h⟩ := ob h
      refine g_iald C Z iaM61 hv65 dX11_escort_218 ?_
      refine lv_isub hx hb dX11_escort_219 ?_
      obtain ⟨v66, ev66, h⟩ := lb h
      refine tn_i ev66 ?_
      refine lv_istore_n (lv' := [(3, .int v66), (0, .ref (ad 0)), (4, .int x4), (5, .int x5), (6, .int x6)]) hx hb dX11_escort_220 rfl hl (by decide) rfl (fun ls hl => ?_)
      refine lv_iload hx hb dX11_escort_221 (lv_at hl 2 rfl) ?_
      refine lv_aload_n hx hb dX11_escort_223 rfl (lv_at hl 1 rfl) ?_
      refine rg_X11_228 C Z dX11_escort_224 ?_
      refine lv_iload hx hb dX11_escort_227 (lv_at hl 4 rfl) ?_
      obtain ⟨v67, hv67, h⟩ := ob h
      refine g_iald C Z iaM62 hv67 dX11_escort_229 ?_
      refine lv_isub hx hb dX11_escort_230 ?_
      obtain ⟨v68, ev68, h⟩ := lb h
      refine tn_i ev68 ?_
      refine lv_istore (lv' := [(4, .int v68), (3, .int v66), (0, .ref (ad 0)), (5, .int x5), (6, .int x6)]) hx hb dX11_escort_231 hl (by decide) rfl (fun ls hl => ?_)
      refine lv_iload hx hb dX11_escort_233 (lv_at hl 3 rfl) ?_
      refine lv_aload_n hx hb dX11_escort_235 rfl (lv_at hl 2 rfl) ?_
      refine lv_iload hx hb dX11_escort_236 (lv_at hl 4 rfl) ?_
      refine lv_aload_n hx hb dX11_escort_238 rfl (lv_at hl 2 rfl) ?_
      refine rg_X11_225 C Z dX11_escort_239 ?_
      refine lv_iload hx hb dX11_escort_242 (lv_at hl 4 rfl) ?_
      obtain ⟨v69, hv69, h⟩ := ob h
      refine g_iald C Z iaM61 hv69 dX11_escort_244 ?_
      refine lv_aload_n hx hb dX11_escort_245 rfl (lv_at hl 2 rfl) ?_
      refine rg_X11_228 C Z dX11_escort_246 ?_
      refine lv_iload hx hb dX11_escort_249 (lv_at hl 4 rfl) ?_
      obtain ⟨v70, hv70, h⟩ := ob h
      refine g_iald C Z iaM62 hv70 dX11_escort_251 ?_
      obtain ⟨v71, hv71, h⟩ := ob h
      refine g_callVi eM_ok C Z (k_X11_cut hv71) lk_X11_603 (by decide) rfl rfl hl (by decide) rfl (Nat.le_of_ble_eq_true rfl) (rest := [.int x5]) rfl dX11_escort_252 (fun H locs Z => ?_)
      refine lv_iadd hx hb dX11_escort_255 ?_
      obtain ⟨v72, ev72, h⟩ := lb h
      refine tn_i ev72 ?_
      refine lv_istore (lv' := [(5, .int v72), (4, .int v68), (3, .int v66), (0, .ref (ad 0)), (6, .int x6)]) hx hb dX11_escort_256 hl (by decide) rfl (fun ls hl => ?_)
      refine lv_aload_n hx hb dX11_escort_258 rfl (lv_at hl 3 rfl) ?_
      refine lv_dup hx hb dX11_escort_259 rfl ?_
      refine rg_X11_624 C Z dX11_escort_260 ?_
      refine lv_aload_n hx hb dX11_escort_263 rfl (lv_at hl 3 rfl) ?_
      refine lv_iload hx hb dX11_escort_264 (lv_at hl 4 rfl) ?_
      refine lv_aload_n hx hb dX11_escort_266 rfl (lv_at hl 3 rfl) ?_
      refine rg_X11_225 C Z dX11_escort_267 ?_
      refine lv_iload hx hb dX11_escort_270 (lv_at hl 4 rfl) ?_
      obtain ⟨v73, hv73, h⟩ := ob h
      refine g_iald C Z iaM61 hv73 dX11_escort_272 ?_
      obtain ⟨v74, hv74, h⟩ := ob h
      refine g_callVi eM_ok C Z (k_X11_caughtIn hv74) lk_X11_606 (by decide) rfl rfl hl (by decide) rfl (Nat.le_of_ble_eq_true rfl) (rest := [.int (gF σ64 90), .ref (ad 0)]) rfl dX11_escort_273 (fun H locs Z => ?_)
      refine lv_iadd hx hb dX11_escort_276 ?_
      obtain ⟨σ75, eσ75, h⟩ := lb h
      refine rp_X11_624 C Z eσ75 dX11_escort_277 (fun H locs Z => ?_)
      obtain ⟨v76, ev76, h⟩ := lb h
      refine lv_iinc (v := v76) (lv' := [(6, .int v76), (5, .int v72), (4, .int v68), (3, .int v66), (0, .ref (ad 0))]) hx hb dX11_escort_280 hl (k := 4) rfl (by rw [ev76]; rfl) (by decide) rfl (fun ls hl => ?_)
      refine lv_goto (tgt := 193) hx hb dX11_escort_283 (by decide) ?_
      exact ih _ _ _ _ _ _ _ _ Z (lv_sub hl [4, 3, 2, 1, 0] rfl) h
set_option maxRecDepth 20000 in
theorem w_X11_escort_156 {p : Program} {l : Launch} {e : Env} {s : State} {m : MethodId} {args : Array Value} {below : List Frame} {meth : Method} {c : Code} {Q : State → Prop} {D : va_G} {kc : Nat → ClassId} {ad : Nat → Nat} {A : Nat → Prop} (C : Cx eM p s m args c cX11_escort 7 RX11 D kc A) {R : Int32 × St} {x1 : Int32} {x2 : Int32} {σ : St} (hR : RTi 0 0 p l e r_X11_escort s m args below meth c cX11_escort tM kc ad D A Q .int R.1 R.2) {H : Heap} {locs : List Loc} {ls : Array Slot} (Z : Dy tM kc ad D A s.heap σ H locs) (hl : lv_has ls 7 [(0, .ref (ad 0)), (1, .int x1), (2, .int x2)]) (h : f_X11_escort_156 x1 x2 σ = some R) : W p l e r_X11_escort s m args below meth c H locs 0 0 Q (F0 m 156 ls []) := by
  have hx := C.1.1
  have hb := C.1.2.1
  unfold f_X11_escort_156 at h
  refine lv_aload_n hx hb dX11_escort_156 rfl (lv_at hl 0 rfl) ?_
  refine rg_X11_222 C Z dX11_escort_157 ?_
  refine lv_iconst (v := 0) hx hb dX11_escort_160 (by decide) ?_
  refine lv_iload_n hx hb dX11_escort_161 rfl (lv_at hl 1 rfl) ?_
  refine lv_iload_n hx hb dX11_escort_162 rfl (lv_at hl 2 rfl) ?_
  refine g_callSi eM_ok C Z (k_X11_place 0 x1 x2 σ) lk_X11_611 hl (by decide) rfl (Nat.le_of_ble_eq_true rfl) (rest := [.ref (ad 60)]) rfl dX11_escort_163 (fun H locs Z => ?_)
  obtain ⟨v62, hv62, h⟩ := ob h
  refine g_lald C Z iaM60 hv62 dX11_escort_166 ?_
  refine lv_ldc2 (v := 1000000000000) hx hb C.1.2.2.2.1 (C.1.2.2.2.2 _ wDL_X11_609) dX11_escort_167 ?_
  refine g_llt (tgt := 177) hx hb dX11_escort_170 dX11_escort_171 (by decide) (fun c171 => ?_) (fun c171 => ?_)
  · have h := ip h c171
    refine lv_iload_n hx hb dX11_escort_177 rfl (lv_at hl 1 rfl) ?_
    refine lv_istore_n (lv' := [(3, .int x1), (0, .ref (ad 0)), (1, .int x1), (2, .int x2)]) hx hb dX11_escort_178 rfl hl (by decide) rfl (fun ls hl => ?_)
    refine lv_iload_n hx hb dX11_escort_179 rfl (lv_at hl 3 rfl) ?_
    refine lv_istore (lv' := [(4, .int x2), (3, .int x1), (0, .ref (ad 0)), (1, .int x1), (2, .int x2)]) hx hb dX11_escort_180 hl (by decide) rfl (fun ls hl => ?_)
    refine lv_iconst (v := 0) hx hb dX11_escort_182 (by decide) ?_
    refine lv_istore (lv' := [(5, .int 0), (4, .int x2), (3, .int x1), (0, .ref (ad 0)), (1, .int x1), (2, .int x2)]) hx hb dX11_escort_183 hl (by decide) rfl (fun ls hl => ?_)
    refine lv_aload_n hx hb dX11_escort_185 rfl (lv_at hl 3 rfl) ?_
    refine lv_iconst (v := 0) hx hb dX11_escort_186 (by decide) ?_
    obtain ⟨σ63, eσ63, h⟩ := lb h
    refine rp_X11_624 C Z eσ63 dX11_escort_187 (fun H locs Z => ?_)
    refine lv_iconst (v := 0) hx hb dX11_escort_190 (by decide) ?_
    refine lv_istore (lv' := [(6, .int 0), (5, .int 0), (4, .int x2), (3, .int x1), (0, .ref (ad 0)), (1, .int x1), (2, .int x2)]) hx hb dX11_escort_191 hl (by decide) rfl (fun ls hl => ?_)
    exact w_X11_escort_193 C hR _ _ _ _ _ _ _ _ _ Z (lv_sub hl [4, 3, 2, 1, 0] rfl) h
  · have h := im h c171
    refine lv_bipush (v := (-2)) hx hb dX11_escort_174 (by decide) ?_
    obtain rfl := Option.some.inj h
    exact hR _ _ _ _ _ Z dX11_escort_176 rfl
set_option maxRecDepth 20000 in
theorem w_X11_escort_94 {p : Program} {l : Launch} {e : Env} {s : State} {m : MethodId} {args : Array Value} {below : List Frame} {meth : Method} {c : Code} {Q : State → Prop} {D : va_G} {kc : Nat → ClassId} {ad : Nat → Nat} {A : Nat → Prop} (C : Cx eM p s m args c cX11_escort 7 RX11 D kc A) {R : Int32 × St} {x1 : Int32} {x2 : Int32} (hR : RTi 0 0 p l e r_X11_escort s m args below meth c cX11_escort tM kc ad D A Q .int R.1 R.2) : ∀ (n : Nat) (x3 : Int32) (σ : St) (H : Heap) (locs : List Loc) (ls : Array Slot), Dy tM kc ad D A s.heap σ H locs → lv_has ls 7 [(0, .ref (ad 0)), (1, .int x1), (2, .int x2), (3, .int x3)] → f_X11_escort_94 x1 x2 n x3 σ = some R → W p l e r_X11_escort s m args below meth c H locs 0 0 Q (F0 m 94 ls []) := by
  have hx := C.1.1
  have hb := C.1.2.1
  intro n
  induction n with
  | zero =>
    intro x3 σ H locs ls Z hl h
    exact absurd (show none = some R from h) (by simp)
  | succ n ih =>
    intro x3 σ H locs ls Z hl h
    rw [f_X11_escort_94] at h
    refine lv_iload_n hx hb dX11_escort_94 rfl (lv_at hl 3 rfl) ?_
    refine lv_if_lt (tgt := 156) hx hb dX11_escort_95 (by decide) (fun c95 => ?_) (fun c95 => ?_)
    · have h := ip h c95
      exact w_X11_escort_156 C hR Z (lv_sub hl [0, 1, 2] rfl) h
    · have h := im h c95
      refine lv_iconst (v := 0) hx hb dX11_escort_98 (by decide) ?_
      refine lv_istore (lv' := [(4, .int 0), (0, .ref (ad 0)), (1, .int x1), (2, .int x2), (3, .int x3)]) hx hb dX11_escort_99 hl (by decide) rfl (fun ls hl => ?_)
      exact w_X11_escort_101 C hR ih _ _ _ _ _ _ Z (lv_sub hl [1, 2, 3, 4, 0] rfl) h
set_option maxRecDepth 20000 in
theorem w_X11_escort_87 {p : Program} {l : Launch} {e : Env} {s : State} {m : MethodId} {args : Array Value} {below : List Frame} {meth : Method} {c : Code} {Q : State → Prop} {D : va_G} {kc : Nat → ClassId} {ad : Nat → Nat} {A : Nat → Prop} (C : Cx eM p s m args c cX11_escort 7 RX11 D kc A) {R : Int32 × St} {x1 : Int32} {x2 : Int32} {σ : St} (hR : RTi 0 0 p l e r_X11_escort s m args below meth c cX11_escort tM kc ad D A Q .int R.1 R.2) {H : Heap} {locs : List Loc} {ls : Array Slot} (Z : Dy tM kc ad D A s.heap σ H locs) (hl : lv_has ls 7 [(0, .ref (ad 0)), (1, .int x1), (2, .int x2)]) (h : f_X11_escort_87 x1 x2 σ = some R) : W p l e r_X11_escort s m args below meth c H locs 0 0 Q (F0 m 87 ls []) := by
  have hx := C.1.1
  have hb := C.1.2.1
  unfold f_X11_escort_87 at h
  refine lv_aload_n hx hb dX11_escort_87 rfl (lv_at hl 0 rfl) ?_
  refine rg_X11_596 C Z dX11_escort_88 ?_
  refine lv_iconst (v := 1) hx hb dX11_escort_91 (by decide) ?_
  refine lv_isub hx hb dX11_escort_92 ?_
  obtain ⟨v56, ev56, h⟩ := lb h
  refine tn_i ev56 ?_
  refine lv_istore_n (lv' := [(3, .int v56), (0, .ref (ad 0)), (1, .int x1), (2, .int x2)]) hx hb dX11_escort_93 rfl hl (by decide) rfl (fun ls hl => ?_)
  exact w_X11_escort_94 C hR _ _ _ _ _ _ Z (lv_sub hl [1, 2, 3, 0] rfl) h
set_option maxRecDepth 20000 in
theorem w_X11_escort_28 {p : Program} {l : Launch} {e : Env} {s : State} {m : MethodId} {args : Array Value} {below : List Frame} {meth : Method} {c : Code} {Q : State → Prop} {D : va_G} {kc : Nat → ClassId} {ad : Nat → Nat} {A : Nat → Prop} (C : Cx eM p s m args c cX11_escort 7 RX11 D kc A) {R : Int32 × St} {x1 : Int32} {x2 : Int32} (hR : RTi 0 0 p l e r_X11_escort s m args below meth c cX11_escort tM kc ad D A Q .int R.1 R.2) : ∀ (n : Nat) (x3 : Int32) (σ : St) (H : Heap) (locs : List Loc) (ls : Array Slot), Dy tM kc ad D A s.heap σ H locs → lv_has ls 7 [(0, .ref (ad 0)), (1, .int x1), (2, .int x2), (3, .int x3)] → f_X11_escort_28 x1 x2 n x3 σ = some R → W p l e r_X11_escort s m args below meth c H locs 0 0 Q (F0 m 28 ls []) := by
  have hx := C.1.1
  have hb := C.1.2.1
  intro n
  induction n with
  | zero =>
    intro x3 σ H locs ls Z hl h
    exact absurd (show none = some R from h) (by simp)
  | succ n ih =>
    intro x3 σ H locs ls Z hl h
    rw [f_X11_escort_28] at h
    refine lv_iload_n hx hb dX11_escort_28 rfl (lv_at hl 3 rfl) ?_
    refine lv_bipush (v := 12) hx hb dX11_escort_29 (by decide) ?_
    refine lv_icmp_gt (tgt := 87) hx hb dX11_escort_31 (by decide) (fun c31 => ?_) (fun c31 => ?_)
    · have h := ip h c31
      exact w_X11_escort_87 C hR Z (lv_sub hl [0, 1, 2] rfl) h
    · have h := im h c31
      refine lv_iconst (v := 0) hx hb dX11_escort_34 (by decide) ?_
      refine lv_istore (lv' := [(4, .int 0), (0, .ref (ad 0)), (1, .int x1), (2, .int x2), (3, .int x3)]) hx hb dX11_escort_35 hl (by decide) rfl (fun ls hl => ?_)
      exact w_X11_escort_37 C hR ih _ _ _ _ _ _ Z (lv_sub hl [1, 2, 3, 4, 0] rfl) h
set_option maxRecDepth 20000 in
theorem w_X11_escort_0 {p : Program} {l : Launch} {e : Env} {s : State} {m : MethodId} {args : Array Value} {below : List Frame} {meth : Method} {c : Code} {Q : State → Prop} {D : va_G} {kc : Nat → ClassId} {ad : Nat → Nat} {A : Nat → Prop} (C : Cx eM p s m args c cX11_escort 7 RX11 D kc A) {R : Int32 × St} {x1 : Int32} {x2 : Int32} {σ : St} (hR : RTi 0 0 p l e r_X11_escort s m args below meth c cX11_escort tM kc ad D A Q .int R.1 R.2) {H : Heap} {locs : List Loc} {ls : Array Slot} (Z : Dy tM kc ad D A s.heap σ H locs) (hl : lv_has ls 7 [(0, .ref (ad 0)), (1, .int x1), (2, .int x2)]) (h : f_X11_escort x1 x2 σ = some R) : W p l e r_X11_escort s m args below meth c H locs 0 0 Q (F0 m 0 ls []) := by
  have hx := C.1.1
  have hb := C.1.2.1
  unfold f_X11_escort at h
  refine lv_iload_n hx hb dX11_escort_0 rfl (lv_at hl 1 rfl) ?_
  refine lv_i2l (v := x1.toInt64) hx hb dX11_escort_1 rfl ?_
  refine lv_lconst (v := 0) hx hb dX11_escort_2 (by decide) ?_
  refine lv_ldc2 (v := 12) hx hb C.1.2.2.2.1 (C.1.2.2.2.2 _ wDL_X11_617) dX11_escort_3 ?_
  refine g_callSi eM_ok C Z (k_X11_in x1.toInt64 0 12 σ) lk_X11_233 hl (by decide) rfl (Nat.le_of_ble_eq_true rfl) (rest := []) rfl dX11_escort_6 (fun H locs Z => ?_)
  refine lv_if_eq (tgt := 24) hx hb dX11_escort_9 (by decide) (fun c9 => ?_) (fun c9 => ?_)
  · have h := ip h c9
    refine lv_iconst (v := (-1)) hx hb dX11_escort_24 (by decide) ?_
    obtain rfl := Option.some.inj h
    exact hR _ _ _ _ _ Z dX11_escort_25 rfl
  · have h := im h c9
    refine lv_iload_n hx hb dX11_escort_12 rfl (lv_at hl 2 rfl) ?_
    refine lv_i2l (v := x2.toInt64) hx hb dX11_escort_13 rfl ?_
    refine lv_lconst (v := 0) hx hb dX11_escort_14 (by decide) ?_
    refine lv_ldc2 (v := 6) hx hb C.1.2.2.2.1 (C.1.2.2.2.2 _ wDL_X11_619) dX11_escort_15 ?_
    refine g_callSi eM_ok C Z (k_X11_in x2.toInt64 0 6 σ) lk_X11_233 hl (by decide) rfl (Nat.le_of_ble_eq_true rfl) (rest := []) rfl dX11_escort_18 (fun H locs Z => ?_)
    refine lv_if_ne (tgt := 26) hx hb dX11_escort_21 (by decide) (fun c21 => ?_) (fun c21 => ?_)
    · have h := im h c21
      refine lv_iconst (v := 0) hx hb dX11_escort_26 (by decide) ?_
      refine lv_istore_n (lv' := [(3, .int 0), (0, .ref (ad 0)), (1, .int x1), (2, .int x2)]) hx hb dX11_escort_27 rfl hl (by decide) rfl (fun ls hl => ?_)
      exact w_X11_escort_28 C hR _ _ _ _ _ _ Z (lv_sub hl [1, 2, 3, 0] rfl) h
    · have h := ip h c21
      refine lv_iconst (v := (-1)) hx hb dX11_escort_24 (by decide) ?_
      obtain rfl := Option.some.inj h
      exact hR _ _ _ _ _ Z dX11_escort_25 rfl
theorem k_X11_escort {l : Launch} {kc : Nat → ClassId} {ad : Nat → Nat} {D : va_G} {x1 : Int32} {x2 : Int32} {σ : St} {R : Int32 × St} (h : f_X11_escort x1 x2 σ = some R) : KC eM tM kc ad D l yX11_escort (.code yX11_escort cX11_escort 7 (some .int)) r_X11_escort [.ref (ad 0), .int x1, .int x2] (some (.int R.1)) σ R.2 := by
  refine g_enter (by decide) (Nat.le_of_ble_eq_true rfl) ?_
  intro p e s m args below meth c A hA C hr hlocks Z ls hl
  have hl : lv_has ls 7 [(0, .ref (ad 0)), (1, .int x1), (2, .int x2)] := hl
  exact w_X11_escort_0 C (g_RTi C.1.1 C.1.2.1 hr hlocks hA)  Z hl h
def r_X11_escorts : Room := { frames := 1, cells := 0, slots := 0, locals := 25 }
set_option maxRecDepth 20000 in
theorem w_X11_escorts_0 {p : Program} {l : Launch} {e : Env} {s : State} {m : MethodId} {args : Array Value} {below : List Frame} {meth : Method} {c : Code} {Q : State → Prop} {D : va_G} {kc : Nat → ClassId} {ad : Nat → Nat} {A : Nat → Prop} (C : Cx eM p s m args c cX11_escorts 2 RX11 D kc A) {R : Int32} {x1 : Int32} {σ : St} (hR : RTi 0 0 p l e r_X11_escorts s m args below meth c cX11_escorts tM kc ad D A Q .int R σ) {H : Heap} {locs : List Loc} {ls : Array Slot} (Z : Dy tM kc ad D A s.heap σ H locs) (hl : lv_has ls 2 [(0, .ref (ad 0)), (1, .int x1)]) (h : f_X11_escorts x1 σ = some R) : W p l e r_X11_escorts s m args below meth c H locs 0 0 Q (F0 m 0 ls []) := by
  have hx := C.1.1
  have hb := C.1.2.1
  unfold f_X11_escorts at h
  refine lv_aload_n hx hb dX11_escorts_0 rfl (lv_at hl 0 rfl) ?_
  refine rg_X11_631 C Z dX11_escorts_1 ?_
  refine lv_if_ne (tgt := 11) hx hb dX11_escorts_4 (by decide) (fun c4 => ?_) (fun c4 => ?_)
  · have h := im h c4
    refine lv_iload_n hx hb dX11_escorts_11 rfl (lv_at hl 1 rfl) ?_
    refine lv_if_ne (tgt := 20) hx hb dX11_escorts_12 (by decide) (fun c12 => ?_) (fun c12 => ?_)
    · have h := im h c12
      refine lv_iload_n hx hb dX11_escorts_20 rfl (lv_at hl 1 rfl) ?_
      refine lv_i2l (v := x1.toInt64) hx hb dX11_escorts_21 rfl ?_
      refine lv_ldc2 (v := 100) hx hb C.1.2.2.2.1 (C.1.2.2.2.2 _ wDL_X11_639) dX11_escorts_22 ?_
      refine lv_bipush (v := 99) hx hb dX11_escorts_25 (by decide) ?_
      refine lv_aload_n hx hb dX11_escorts_27 rfl (lv_at hl 0 rfl) ?_
      refine rg_X11_635 C Z dX11_escorts_28 ?_
      refine lv_iadd hx hb dX11_escorts_31 ?_
      refine lv_i2l (v := (99 + (gF σ 89)).toInt64) hx hb dX11_escorts_32 rfl ?_
      refine g_callSi eM_ok C Z (k_X11_in x1.toInt64 100 ((99 + (gF σ 89)).toInt64) σ) lk_X11_233 hl (by decide) rfl (Nat.le_of_ble_eq_true rfl) (rest := []) rfl dX11_escorts_33 (fun H locs Z => ?_)
      refine lv_if_eq (tgt := 49) hx hb dX11_escorts_36 (by decide) (fun c36 => ?_) (fun c36 => ?_)
      · have h := ip h c36
        refine lv_iload_n hx hb dX11_escorts_49 rfl (lv_at hl 1 rfl) ?_
        refine lv_i2l (v := x1.toInt64) hx hb dX11_escorts_50 rfl ?_
        refine lv_ldc2 (v := 200) hx hb C.1.2.2.2.1 (C.1.2.2.2.2 _ wDL_X11_641) dX11_escorts_51 ?_
        refine lv_sipush (v := 199) hx hb dX11_escorts_54 (by decide) ?_
        refine lv_aload_n hx hb dX11_escorts_57 rfl (lv_at hl 0 rfl) ?_
        refine rg_X11_635 C Z dX11_escorts_58 ?_
        refine lv_iadd hx hb dX11_escorts_61 ?_
        refine lv_i2l (v := (199 + (gF σ 89)).toInt64) hx hb dX11_escorts_62 rfl ?_
        refine g_callSi eM_ok C Z (k_X11_in x1.toInt64 200 ((199 + (gF σ 89)).toInt64) σ) lk_X11_233 hl (by decide) rfl (Nat.le_of_ble_eq_true rfl) (rest := []) rfl dX11_escorts_63 (fun H locs Z => ?_)
        refine lv_if_eq (tgt := 82) hx hb dX11_escorts_66 (by decide) (fun c66 => ?_) (fun c66 => ?_)
        · have h := ip h c66
          refine lv_ldcw (v := (-1000000000)) hx hb C.1.2.2.2.1 (C.1.2.2.2.2 _ wD_X11_638) dX11_escorts_82 ?_
          obtain rfl := Option.some.inj h
          exact hR _ _ _ _ _ Z dX11_escorts_85 rfl
        · have h := im h c66
          refine lv_aload_n hx hb dX11_escorts_69 rfl (lv_at hl 0 rfl) ?_
          refine rg_X11_228 C Z dX11_escorts_70 ?_
          refine lv_iload_n hx hb dX11_escorts_73 rfl (lv_at hl 1 rfl) ?_
          refine lv_sipush (v := 200) hx hb dX11_escorts_74 (by decide) ?_
          refine lv_isub hx hb dX11_escorts_77 ?_
          obtain ⟨v5, hv5, h⟩ := ob h
          refine g_iald C Z iaM62 hv5 dX11_escorts_78 ?_
          refine lv_goto (tgt := 85) hx hb dX11_escorts_79 (by decide) ?_
          obtain rfl := Option.some.inj h
          exact hR _ _ _ _ _ Z dX11_escorts_85 rfl
      · have h := im h c36
        refine lv_aload_n hx hb dX11_escorts_39 rfl (lv_at hl 0 rfl) ?_
        refine rg_X11_225 C Z dX11_escorts_40 ?_
        refine lv_iload_n hx hb dX11_escorts_43 rfl (lv_at hl 1 rfl) ?_
        refine lv_bipush (v := 100) hx hb dX11_escorts_44 (by decide) ?_
        refine lv_isub hx hb dX11_escorts_46 ?_
        obtain ⟨v6, hv6, h⟩ := ob h
        refine g_iald C Z iaM61 hv6 dX11_escorts_47 ?_
        obtain rfl := Option.some.inj h
        exact hR _ _ _ _ _ Z dX11_escorts_48 rfl
    · have h := ip h c12
      refine lv_aload_n hx hb dX11_escorts_15 rfl (lv_at hl 0 rfl) ?_
      refine rg_X11_624 C Z dX11_escorts_16 ?_
      obtain rfl := Option.some.inj h
      exact hR _ _ _ _ _ Z dX11_escorts_19 rfl
  · have h := ip h c4
    refine lv_ldcw (v := (-1000000000)) hx hb C.1.2.2.2.1 (C.1.2.2.2.2 _ wD_X11_638) dX11_escorts_7 ?_
    obtain rfl := Option.some.inj h
    exact hR _ _ _ _ _ Z dX11_escorts_10 rfl
theorem k_X11_escorts {l : Launch} {kc : Nat → ClassId} {ad : Nat → Nat} {D : va_G} {x1 : Int32} {σ : St} {R : Int32} (h : f_X11_escorts x1 σ = some R) : KC eM tM kc ad D l yX11_escorts (.code yX11_escorts cX11_escorts 2 (some .int)) r_X11_escorts [.ref (ad 0), .int x1] (some (.int R)) σ σ := by
  refine g_enter (by decide) (Nat.le_of_ble_eq_true rfl) ?_
  intro p e s m args below meth c A hA C hr hlocks Z ls hl
  have hl : lv_has ls 2 [(0, .ref (ad 0)), (1, .int x1)] := hl
  exact w_X11_escorts_0 C (g_RTi C.1.1 C.1.2.1 hr hlocks hA)  Z hl h
def r_X11_count : Room := { frames := 0, cells := 0, slots := 0, locals := 0 }
set_option maxRecDepth 20000 in
theorem w_X11_count_0 {p : Program} {l : Launch} {e : Env} {s : State} {m : MethodId} {args : Array Value} {below : List Frame} {meth : Method} {c : Code} {Q : State → Prop} {D : va_G} {kc : Nat → ClassId} {ad : Nat → Nat} {A : Nat → Prop} (C : Cx eM p s m args c cX11_count 2 RX11 D kc A) {R : Int32} {x1 : Int32} {σ : St} (hR : RTi 0 0 p l e r_X11_count s m args below meth c cX11_count tM kc ad D A Q .int R σ) {H : Heap} {locs : List Loc} {ls : Array Slot} (Z : Dy tM kc ad D A s.heap σ H locs) (hl : lv_has ls 2 [(0, .ref (ad 0)), (1, .int x1)]) (h : f_X11_count x1 σ = some R) : W p l e r_X11_count s m args below meth c H locs 0 0 Q (F0 m 0 ls []) := by
  have hx := C.1.1
  have hb := C.1.2.1
  unfold f_X11_count at h
  refine lv_iload_n hx hb dX11_count_0 rfl (lv_at hl 1 rfl) ?_
  by_cases c1_0 : x1 = 0
  · have h := ip h c1_0
    refine lv_tableIn (tgt := 64) (off := 63) hx hb dX11_count_1 (by rw [c1_0]; decide) (by rw [c1_0]; decide) (by rw [c1_0]; decide) (by decide) ?_
    refine lv_aload_n hx hb dX11_count_64 rfl (lv_at hl 0 rfl) ?_
    refine rg_X11_237 C Z dX11_count_65 ?_
    obtain rfl := Option.some.inj h
    exact hR _ _ _ _ _ Z dX11_count_68 rfl
  have h := im h c1_0
  by_cases c1_1 : x1 = 1
  · have h := ip h c1_1
    refine lv_tableIn (tgt := 69) (off := 68) hx hb dX11_count_1 (by rw [c1_1]; decide) (by rw [c1_1]; decide) (by rw [c1_1]; decide) (by decide) ?_
    refine lv_aload_n hx hb dX11_count_69 rfl (lv_at hl 0 rfl) ?_
    refine rg_X11_248 C Z dX11_count_70 ?_
    obtain rfl := Option.some.inj h
    exact hR _ _ _ _ _ Z dX11_count_73 rfl
  have h := im h c1_1
  by_cases c1_2 : x1 = 2
  · have h := ip h c1_2
    refine lv_tableIn (tgt := 74) (off := 73) hx hb dX11_count_1 (by rw [c1_2]; decide) (by rw [c1_2]; decide) (by rw [c1_2]; decide) (by decide) ?_
    refine lv_aload_n hx hb dX11_count_74 rfl (lv_at hl 0 rfl) ?_
    refine rg_X11_261 C Z dX11_count_75 ?_
    obtain rfl := Option.some.inj h
    exact hR _ _ _ _ _ Z dX11_count_78 rfl
  have h := im h c1_2
  by_cases c1_3 : x1 = 3
  · have h := ip h c1_3
    refine lv_tableIn (tgt := 79) (off := 78) hx hb dX11_count_1 (by rw [c1_3]; decide) (by rw [c1_3]; decide) (by rw [c1_3]; decide) (by decide) ?_
    refine lv_aload_n hx hb dX11_count_79 rfl (lv_at hl 0 rfl) ?_
    refine rg_X11_52 C Z dX11_count_80 ?_
    refine lv_iconst (v := 0) hx hb dX11_count_83 (by decide) ?_
    obtain ⟨v5, hv5, h⟩ := ob h
    refine g_iald C Z iaM15 hv5 dX11_count_84 ?_
    obtain rfl := Option.some.inj h
    exact hR _ _ _ _ _ Z dX11_count_85 rfl
  have h := im h c1_3
  by_cases c1_4 : x1 = 4
  · have h := ip h c1_4
    refine lv_tableIn (tgt := 86) (off := 85) hx hb dX11_count_1 (by rw [c1_4]; decide) (by rw [c1_4]; decide) (by rw [c1_4]; decide) (by decide) ?_
    refine lv_aload_n hx hb dX11_count_86 rfl (lv_at hl 0 rfl) ?_
    refine rg_X11_52 C Z dX11_count_87 ?_
    refine lv_iconst (v := 1) hx hb dX11_count_90 (by decide) ?_
    obtain ⟨v6, hv6, h⟩ := ob h
    refine g_iald C Z iaM15 hv6 dX11_count_91 ?_
    obtain rfl := Option.some.inj h
    exact hR _ _ _ _ _ Z dX11_count_92 rfl
  have h := im h c1_4
  by_cases c1_5 : x1 = 5
  · have h := ip h c1_5
    refine lv_tableIn (tgt := 93) (off := 92) hx hb dX11_count_1 (by rw [c1_5]; decide) (by rw [c1_5]; decide) (by rw [c1_5]; decide) (by decide) ?_
    refine lv_aload_n hx hb dX11_count_93 rfl (lv_at hl 0 rfl) ?_
    refine rg_X11_350 C Z dX11_count_94 ?_
    obtain rfl := Option.some.inj h
    exact hR _ _ _ _ _ Z dX11_count_97 rfl
  have h := im h c1_5
  by_cases c1_6 : x1 = 6
  · have h := ip h c1_6
    refine lv_tableIn (tgt := 98) (off := 97) hx hb dX11_count_1 (by rw [c1_6]; decide) (by rw [c1_6]; decide) (by rw [c1_6]; decide) (by decide) ?_
    refine lv_aload_n hx hb dX11_count_98 rfl (lv_at hl 0 rfl) ?_
    refine rg_X11_485 C Z dX11_count_99 ?_
    obtain rfl := Option.some.inj h
    exact hR _ _ _ _ _ Z dX11_count_102 rfl
  have h := im h c1_6
  by_cases c1_7 : x1 = 7
  · have h := ip h c1_7
    refine lv_tableIn (tgt := 103) (off := 102) hx hb dX11_count_1 (by rw [c1_7]; decide) (by rw [c1_7]; decide) (by rw [c1_7]; decide) (by decide) ?_
    refine lv_aload_n hx hb dX11_count_103 rfl (lv_at hl 0 rfl) ?_
    refine rg_X11_567 C Z dX11_count_104 ?_
    obtain rfl := Option.some.inj h
    exact hR _ _ _ _ _ Z dX11_count_107 rfl
  have h := im h c1_7
  by_cases c1_8 : x1 = 8
  · have h := ip h c1_8
    refine lv_tableIn (tgt := 108) (off := 107) hx hb dX11_count_1 (by rw [c1_8]; decide) (by rw [c1_8]; decide) (by rw [c1_8]; decide) (by decide) ?_
    refine lv_aload_n hx hb dX11_count_108 rfl (lv_at hl 0 rfl) ?_
    refine rg_X11_574 C Z dX11_count_109 ?_
    obtain rfl := Option.some.inj h
    exact hR _ _ _ _ _ Z dX11_count_112 rfl
  have h := im h c1_8
  by_cases c1_9 : x1 = 9
  · have h := ip h c1_9
    refine lv_tableIn (tgt := 113) (off := 112) hx hb dX11_count_1 (by rw [c1_9]; decide) (by rw [c1_9]; decide) (by rw [c1_9]; decide) (by decide) ?_
    refine lv_aload_n hx hb dX11_count_113 rfl (lv_at hl 0 rfl) ?_
    refine rg_X11_589 C Z dX11_count_114 ?_
    obtain rfl := Option.some.inj h
    exact hR _ _ _ _ _ Z dX11_count_117 rfl
  have h := im h c1_9
  by_cases c1_10 : x1 = 10
  · have h := ip h c1_10
    refine lv_tableIn (tgt := 118) (off := 117) hx hb dX11_count_1 (by rw [c1_10]; decide) (by rw [c1_10]; decide) (by rw [c1_10]; decide) (by decide) ?_
    refine lv_aload_n hx hb dX11_count_118 rfl (lv_at hl 0 rfl) ?_
    refine rg_X11_596 C Z dX11_count_119 ?_
    obtain rfl := Option.some.inj h
    exact hR _ _ _ _ _ Z dX11_count_122 rfl
  have h := im h c1_10
  by_cases c1_11 : x1 = 11
  · have h := ip h c1_11
    refine lv_tableIn (tgt := 123) (off := 122) hx hb dX11_count_1 (by rw [c1_11]; decide) (by rw [c1_11]; decide) (by rw [c1_11]; decide) (by decide) ?_
    refine lv_aload_n hx hb dX11_count_123 rfl (lv_at hl 0 rfl) ?_
    refine rg_X11_316 C Z dX11_count_124 ?_
    obtain rfl := Option.some.inj h
    exact hR _ _ _ _ _ Z dX11_count_127 rfl
  have h := im h c1_11
  refine lv_tableOut (tgt := 128) hx hb dX11_count_1 ?_ (by decide) ?_
  · have t0 : ¬ x1.toInt = 0 := fun e => c1_0 (i32_of (b := 0) (n := 0) e (by decide)); have t1 : ¬ x1.toInt = 1 := fun e => c1_1 (i32_of (b := 1) (n := 1) e (by decide)); have t2 : ¬ x1.toInt = 2 := fun e => c1_2 (i32_of (b := 2) (n := 2) e (by decide)); have t3 : ¬ x1.toInt = 3 := fun e => c1_3 (i32_of (b := 3) (n := 3) e (by decide)); have t4 : ¬ x1.toInt = 4 := fun e => c1_4 (i32_of (b := 4) (n := 4) e (by decide)); have t5 : ¬ x1.toInt = 5 := fun e => c1_5 (i32_of (b := 5) (n := 5) e (by decide)); have t6 : ¬ x1.toInt = 6 := fun e => c1_6 (i32_of (b := 6) (n := 6) e (by decide)); have t7 : ¬ x1.toInt = 7 := fun e => c1_7 (i32_of (b := 7) (n := 7) e (by decide)); have t8 : ¬ x1.toInt = 8 := fun e => c1_8 (i32_of (b := 8) (n := 8) e (by decide)); have t9 : ¬ x1.toInt = 9 := fun e => c1_9 (i32_of (b := 9) (n := 9) e (by decide)); have t10 : ¬ x1.toInt = 10 := fun e => c1_10 (i32_of (b := 10) (n := 10) e (by decide)); have t11 : ¬ x1.toInt = 11 := fun e => c1_11 (i32_of (b := 11) (n := 11) e (by decide)); omega
  · refine lv_iconst (v := (-1)) hx hb dX11_count_128 (by decide) ?_
    obtain rfl := Option.some.inj h
    exact hR _ _ _ _ _ Z dX11_count_129 rfl
theorem k_X11_count {l : Launch} {kc : Nat → ClassId} {ad : Nat → Nat} {D : va_G} {x1 : Int32} {σ : St} {R : Int32} (h : f_X11_count x1 σ = some R) : KC eM tM kc ad D l yX11_count (.code yX11_count cX11_count 2 (some .int)) r_X11_count [.ref (ad 0), .int x1] (some (.int R)) σ σ := by
  refine g_enter (by decide) (Nat.le_of_ble_eq_true rfl) ?_
  intro p e s m args below meth c A hA C hr hlocks Z ls hl
  have hl : lv_has ls 2 [(0, .ref (ad 0)), (1, .int x1)] := hl
  exact w_X11_count_0 C (g_RTi C.1.1 C.1.2.1 hr hlocks hA)  Z hl h
