def r_X11_test : Room := { frames := 5, cells := 0, slots := 0, locals := 115 }
set_option maxRecDepth 20000 in
theorem w_X11_test_28 {p : Program} {l : Launch} {e : Env} {s : State} {m : MethodId} {args : Array Value} {below : List Frame} {meth : Method} {c : Code} {Q : State → Prop} {D : va_G} {kc : Nat → ClassId} {ad : Nat → Nat} {A : Nat → Prop} (C : Cx eM p s m args c cX11_test 5 RX11 D kc A) {R : Int32 × St} {x1 : Int32} {x3 : Int32} {σ : St} (hR : RTi 0 0 p l e r_X11_test s m args below meth c cX11_test tM kc ad D A Q .boolean R.1 R.2) {k5 : St → Option (Int32 × St)} (hk5 : ∀ (σ : St) (H : Heap) (locs : List Loc) (ls : Array Slot), Dy tM kc ad D A s.heap σ H locs → lv_has ls 5 [(0, .ref (ad 0)), (1, .int x1)] → k5 σ = some R → W p l e r_X11_test s m args below meth c H locs 0 0 Q (F0 m 5 ls [])) {H : Heap} {locs : List Loc} {ls : Array Slot} (Z : Dy tM kc ad D A s.heap σ H locs) (hl : lv_has ls 5 [(0, .ref (ad 0)), (1, .int x1), (3, .int x3)]) (h : f_X11_test_28 x1 x3 σ k5 = some R) : W p l e r_X11_test s m args below meth c H locs 0 0 Q (F0 m 28 ls []) := by
  have hx := C.1.1
  have hb := C.1.2.1
  unfold f_X11_test_28 at h
  refine lv_aload_n hx hb dX11_test_28 rfl (lv_at hl 0 rfl) ?_
  refine lv_aload_n hx hb dX11_test_29 rfl (lv_at hl 0 rfl) ?_
  refine rg_X11_326 C Z dX11_test_30 ?_
  obtain ⟨u58, hu58, h⟩ := ob h
  refine g_callVi eM_ok C Z (k_X11_opens hu58) lk_X11_375 (by decide) rfl rfl hl (by decide) rfl (Nat.le_of_ble_eq_true rfl) (rest := []) rfl dX11_test_33 (fun H locs Z => ?_)
  refine lv_if_ne (tgt := 41) hx hb dX11_test_36 (by decide) (fun c36 => ?_) (fun c36 => ?_)
  · have h := im h c36
    refine lv_aload_n hx hb dX11_test_41 rfl (lv_at hl 0 rfl) ?_
    refine lv_iload_n hx hb dX11_test_42 rfl (lv_at hl 2 rfl) ?_
    obtain ⟨v59, ev59, h⟩ := lb h
    have hj : W p l e r_X11_test s m args below meth c H locs 0 0 Q (F0 m 53 ls [.int v59, .ref (ad 0)]) := by
      obtain ⟨σ60, hσ60, h⟩ := ob h
      refine g_callVv eM_ok C Z (k_X11_waits hσ60) lk_X11_378 (by decide) rfl rfl hl (by decide) rfl (Nat.le_of_ble_eq_true rfl) (rest := []) rfl dX11_test_53 (fun H locs Z => ?_)
      refine lv_aload_n hx hb dX11_test_56 rfl (lv_at hl 0 rfl) ?_
      refine lv_dup hx hb dX11_test_57 rfl ?_
      refine rg_X11_326 C Z dX11_test_58 ?_
      refine lv_iload_n hx hb dX11_test_61 rfl (lv_at hl 2 rfl) ?_
      obtain ⟨v61, ev61, h⟩ := lb h
      have hj : W p l e r_X11_test s m args below meth c H locs 0 0 Q (F0 m 70 ls [.int v61, .int (gF σ60 38), .ref (ad 0)]) := by
        refine lv_iadd hx hb dX11_test_70 ?_
        obtain ⟨σ62, eσ62, h⟩ := lb h
        refine rp_X11_326 C Z eσ62 dX11_test_71 (fun H locs Z => ?_)
        refine lv_goto (tgt := 5) hx hb dX11_test_74 (by decide) ?_
        exact hk5 _ _ _ _ Z (lv_sub hl [0, 1] rfl) h
      refine lv_if_eq (tgt := 69) hx hb dX11_test_62 (by decide) (fun c62 => ?_) (fun c62 => ?_)
      · rw [if_pos c62] at ev61
        refine lv_iconst (v := 1) hx hb dX11_test_69 (by decide) ?_
        exact tn_i ev61 hj
      · rw [if_neg c62] at ev61
        refine lv_iconst (v := 2) hx hb dX11_test_65 (by decide) ?_
        refine lv_goto (tgt := 70) hx hb dX11_test_66 (by decide) ?_
        exact tn_i ev61 hj
    refine lv_if_eq (tgt := 51) hx hb dX11_test_43 (by decide) (fun c43 => ?_) (fun c43 => ?_)
    · rw [if_pos c43] at ev59
      refine lv_bipush (v := 14) hx hb dX11_test_51 (by decide) ?_
      exact tn_i ev59 hj
    · rw [if_neg c43] at ev59
      refine lv_bipush (v := 10) hx hb dX11_test_46 (by decide) ?_
      refine lv_goto (tgt := 53) hx hb dX11_test_48 (by decide) ?_
      exact tn_i ev59 hj
  · have h := ip h c36
    refine lv_iconst (v := 0) hx hb dX11_test_39 (by decide) ?_
    obtain rfl := Option.some.inj h
    exact hR _ _ _ _ _ Z dX11_test_40 rfl
set_option maxRecDepth 20000 in
theorem w_X11_test_127 {p : Program} {l : Launch} {e : Env} {s : State} {m : MethodId} {args : Array Value} {below : List Frame} {meth : Method} {c : Code} {Q : State → Prop} {D : va_G} {kc : Nat → ClassId} {ad : Nat → Nat} {A : Nat → Prop} (C : Cx eM p s m args c cX11_test 5 RX11 D kc A) {R : Int32 × St} {x1 : Int32} {σ : St} (hR : RTi 0 0 p l e r_X11_test s m args below meth c cX11_test tM kc ad D A Q .boolean R.1 R.2) {k91 : St → Option (Int32 × St)} {k5 : St → Option (Int32 × St)} (hk91 : ∀ (σ : St) (H : Heap) (locs : List Loc) (ls : Array Slot), Dy tM kc ad D A s.heap σ H locs → lv_has ls 5 [(0, .ref (ad 0)), (1, .int x1)] → k91 σ = some R → W p l e r_X11_test s m args below meth c H locs 0 0 Q (F0 m 91 ls [])) (hk5 : ∀ (σ : St) (H : Heap) (locs : List Loc) (ls : Array Slot), Dy tM kc ad D A s.heap σ H locs → lv_has ls 5 [(0, .ref (ad 0)), (1, .int x1)] → k5 σ = some R → W p l e r_X11_test s m args below meth c H locs 0 0 Q (F0 m 5 ls [])) {H : Heap} {locs : List Loc} {ls : Array Slot} (Z : Dy tM kc ad D A s.heap σ H locs) (hl : lv_has ls 5 [(0, .ref (ad 0)), (1, .int x1)]) (h : f_X11_test_127 x1 σ k91 k5 = some R) : W p l e r_X11_test s m args below meth c H locs 0 0 Q (F0 m 127 ls []) := by
  have hx := C.1.1
  have hb := C.1.2.1
  unfold f_X11_test_127 at h
  refine lv_aload_n hx hb dX11_test_127 rfl (lv_at hl 0 rfl) ?_
  refine lv_dup hx hb dX11_test_128 rfl ?_
  refine rg_X11_356 C Z dX11_test_129 ?_
  refine lv_iconst (v := 1) hx hb dX11_test_132 (by decide) ?_
  refine lv_isub hx hb dX11_test_133 ?_
  obtain ⟨σ67, eσ67, h⟩ := lb h
  refine rp_X11_356 C Z eσ67 dX11_test_134 (fun H locs Z => ?_)
  refine lv_aload_n hx hb dX11_test_137 rfl (lv_at hl 0 rfl) ?_
  refine lv_dup hx hb dX11_test_138 rfl ?_
  refine rg_X11_363 C Z dX11_test_139 ?_
  refine lv_iconst (v := 1) hx hb dX11_test_142 (by decide) ?_
  refine lv_isub hx hb dX11_test_143 ?_
  obtain ⟨σ68, eσ68, h⟩ := lb h
  refine rp_X11_363 C Z eσ68 dX11_test_144 (fun H locs Z => ?_)
  refine lv_aload_n hx hb dX11_test_147 rfl (lv_at hl 0 rfl) ?_
  refine lv_dup hx hb dX11_test_148 rfl ?_
  refine rg_X11_326 C Z dX11_test_149 ?_
  refine lv_iconst (v := 1) hx hb dX11_test_152 (by decide) ?_
  refine lv_iadd hx hb dX11_test_153 ?_
  obtain ⟨σ69, eσ69, h⟩ := lb h
  refine rp_X11_326 C Z eσ69 dX11_test_154 (fun H locs Z => ?_)
  refine lv_aload_n hx hb dX11_test_157 rfl (lv_at hl 0 rfl) ?_
  refine lv_iload_n hx hb dX11_test_158 rfl (lv_at hl 1 rfl) ?_
  obtain ⟨σ70, hσ70, h⟩ := ob h
  refine g_callVv eM_ok C Z (k_X11_endedFact hσ70) lk_X11_403 (by decide) rfl rfl hl (by decide) rfl (Nat.le_of_ble_eq_true rfl) (rest := []) rfl dX11_test_159 (fun H locs Z => ?_)
  refine lv_goto (tgt := 91) hx hb dX11_test_162 (by decide) ?_
  exact hk91 _ _ _ _ Z (lv_sub hl [0, 1] rfl) h
set_option maxRecDepth 20000 in
theorem w_X11_test_110 {p : Program} {l : Launch} {e : Env} {s : State} {m : MethodId} {args : Array Value} {below : List Frame} {meth : Method} {c : Code} {Q : State → Prop} {D : va_G} {kc : Nat → ClassId} {ad : Nat → Nat} {A : Nat → Prop} (C : Cx eM p s m args c cX11_test 5 RX11 D kc A) {R : Int32 × St} {x1 : Int32} (hR : RTi 0 0 p l e r_X11_test s m args below meth c cX11_test tM kc ad D A Q .boolean R.1 R.2) {k91 : St → Option (Int32 × St)} {k5 : St → Option (Int32 × St)} (hk91 : ∀ (σ : St) (H : Heap) (locs : List Loc) (ls : Array Slot), Dy tM kc ad D A s.heap σ H locs → lv_has ls 5 [(0, .ref (ad 0)), (1, .int x1)] → k91 σ = some R → W p l e r_X11_test s m args below meth c H locs 0 0 Q (F0 m 91 ls [])) (hk5 : ∀ (σ : St) (H : Heap) (locs : List Loc) (ls : Array Slot), Dy tM kc ad D A s.heap σ H locs → lv_has ls 5 [(0, .ref (ad 0)), (1, .int x1)] → k5 σ = some R → W p l e r_X11_test s m args below meth c H locs 0 0 Q (F0 m 5 ls [])) : ∀ (n : Nat) (σ : St) (H : Heap) (locs : List Loc) (ls : Array Slot), Dy tM kc ad D A s.heap σ H locs → lv_has ls 5 [(0, .ref (ad 0)), (1, .int x1)] → f_X11_test_110 x1 k91 k5 n σ = some R → W p l e r_X11_test s m args below meth c H locs 0 0 Q (F0 m 110 ls []) := by
  have hx := C.1.1
  have hb := C.1.2.1
  intro n
  induction n with
  | zero =>
    intro σ H locs ls Z hl h
    exact absurd (show none = some R from h) (by simp)
  | succ n ih =>
    intro σ H locs ls Z hl h
    rw [f_X11_test_110] at h
    refine lv_aload_n hx hb dX11_test_110 rfl (lv_at hl 0 rfl) ?_
    refine lv_iload_n hx hb dX11_test_111 rfl (lv_at hl 1 rfl) ?_
    refine lv_bipush (v := 14) hx hb dX11_test_112 (by decide) ?_
    obtain ⟨v65, hv65, h⟩ := ob h
    refine g_callVi eM_ok C Z (k_X11_isTop hv65) lk_X11_380 (by decide) rfl rfl hl (by decide) rfl (Nat.le_of_ble_eq_true rfl) (rest := []) rfl dX11_test_114 (fun H locs Z => ?_)
    refine lv_if_ne (tgt := 127) hx hb dX11_test_117 (by decide) (fun c117 => ?_) (fun c117 => ?_)
    · have h := im h c117
      exact w_X11_test_127 C hR hk91 hk5 Z (lv_sub hl [0, 1] rfl) h
    · have h := ip h c117
      refine lv_aload_n hx hb dX11_test_120 rfl (lv_at hl 0 rfl) ?_
      obtain ⟨σ66, hσ66, h⟩ := ob h
      refine g_callVv eM_ok C Z (k_X11_pops hσ66) lk_X11_383 (by decide) rfl rfl hl (by decide) rfl (Nat.le_of_ble_eq_true rfl) (rest := []) rfl dX11_test_121 (fun H locs Z => ?_)
      refine lv_goto (tgt := 110) hx hb dX11_test_124 (by decide) ?_
      exact ih _ _ _ _ Z (lv_sub hl [0, 1] rfl) h
set_option maxRecDepth 20000 in
theorem w_X11_test_267 {p : Program} {l : Launch} {e : Env} {s : State} {m : MethodId} {args : Array Value} {below : List Frame} {meth : Method} {c : Code} {Q : State → Prop} {D : va_G} {kc : Nat → ClassId} {ad : Nat → Nat} {A : Nat → Prop} (C : Cx eM p s m args c cX11_test 5 RX11 D kc A) {R : Int32 × St} {x1 : Int32} (hR : RTi 0 0 p l e r_X11_test s m args below meth c cX11_test tM kc ad D A Q .boolean R.1 R.2) : ∀ (n : Nat) (σ : St) (H : Heap) (locs : List Loc) (ls : Array Slot), Dy tM kc ad D A s.heap σ H locs → lv_has ls 5 [(0, .ref (ad 0)), (1, .int x1)] → f_X11_test_267 x1 n σ = some R → W p l e r_X11_test s m args below meth c H locs 0 0 Q (F0 m 267 ls []) := by
  have hx := C.1.1
  have hb := C.1.2.1
  intro n
  induction n with
  | zero =>
    intro σ H locs ls Z hl h
    exact absurd (show none = some R from h) (by simp)
  | succ n ih =>
    intro σ H locs ls Z hl h
    rw [f_X11_test_267] at h
    refine lv_aload_n hx hb dX11_test_267 rfl (lv_at hl 0 rfl) ?_
    refine rg_X11_356 C Z dX11_test_268 ?_
    refine lv_iload_n hx hb dX11_test_271 rfl (lv_at hl 1 rfl) ?_
    refine lv_icmp_le (tgt := 282) hx hb dX11_test_272 (by decide) (fun c272 => ?_) (fun c272 => ?_)
    · have h := ip h c272
      refine lv_iconst (v := 1) hx hb dX11_test_282 (by decide) ?_
      obtain rfl := Option.some.inj h
      exact hR _ _ _ _ _ Z dX11_test_283 rfl
    · have h := im h c272
      refine lv_aload_n hx hb dX11_test_275 rfl (lv_at hl 0 rfl) ?_
      obtain ⟨σ81, hσ81, h⟩ := ob h
      refine g_callVv eM_ok C Z (k_X11_pops hσ81) lk_X11_383 (by decide) rfl rfl hl (by decide) rfl (Nat.le_of_ble_eq_true rfl) (rest := []) rfl dX11_test_276 (fun H locs Z => ?_)
      refine lv_goto (tgt := 267) hx hb dX11_test_279 (by decide) ?_
      exact ih _ _ _ _ Z (lv_sub hl [0, 1] rfl) h
set_option maxRecDepth 20000 in
theorem w_X11_test_189 {p : Program} {l : Launch} {e : Env} {s : State} {m : MethodId} {args : Array Value} {below : List Frame} {meth : Method} {c : Code} {Q : State → Prop} {D : va_G} {kc : Nat → ClassId} {ad : Nat → Nat} {A : Nat → Prop} (C : Cx eM p s m args c cX11_test 5 RX11 D kc A) {R : Int32 × St} {x1 : Int32} {σ : St} (hR : RTi 0 0 p l e r_X11_test s m args below meth c cX11_test tM kc ad D A Q .boolean R.1 R.2) {H : Heap} {locs : List Loc} {ls : Array Slot} (Z : Dy tM kc ad D A s.heap σ H locs) (hl : lv_has ls 5 [(0, .ref (ad 0)), (1, .int x1)]) (h : f_X11_test_189 x1 σ = some R) : W p l e r_X11_test s m args below meth c H locs 0 0 Q (F0 m 189 ls []) := by
  have hx := C.1.1
  have hb := C.1.2.1
  unfold f_X11_test_189 at h
  refine lv_goto (tgt := 247) hx hb dX11_test_189 (by decide) ?_
  refine lv_aload_n hx hb dX11_test_247 rfl (lv_at hl 0 rfl) ?_
  refine lv_iload_n hx hb dX11_test_248 rfl (lv_at hl 1 rfl) ?_
  refine lv_bipush (v := 14) hx hb dX11_test_249 (by decide) ?_
  obtain ⟨v73, hv73, h⟩ := ob h
  refine g_callVi eM_ok C Z (k_X11_has hv73) lk_X11_389 (by decide) rfl rfl hl (by decide) rfl (Nat.le_of_ble_eq_true rfl) (rest := []) rfl dX11_test_251 (fun H locs Z => ?_)
  refine lv_if_eq (tgt := 267) hx hb dX11_test_254 (by decide) (fun c254 => ?_) (fun c254 => ?_)
  · have h := ip h c254
    exact w_X11_test_267 C hR _ _ _ _ _ Z (lv_sub hl [0, 1] rfl) h
  · have h := im h c254
    refine lv_aload_n hx hb dX11_test_257 rfl (lv_at hl 0 rfl) ?_
    refine lv_iconst (v := 0) hx hb dX11_test_258 (by decide) ?_
    refine lv_aload_n hx hb dX11_test_259 rfl (lv_at hl 0 rfl) ?_
    refine rg_X11_326 C Z dX11_test_260 ?_
    obtain ⟨u74, hu74, h⟩ := ob h
    refine g_callVi eM_ok C Z (k_X11_fails hu74) lk_X11_337 (by decide) rfl rfl hl (by decide) rfl (Nat.le_of_ble_eq_true rfl) (rest := []) rfl dX11_test_263 (fun H locs Z => ?_)
    obtain rfl := Option.some.inj h
    exact hR _ _ _ _ _ Z dX11_test_266 (nar_b _)
set_option maxRecDepth 20000 in
theorem w_X11_test_221 {p : Program} {l : Launch} {e : Env} {s : State} {m : MethodId} {args : Array Value} {below : List Frame} {meth : Method} {c : Code} {Q : State → Prop} {D : va_G} {kc : Nat → ClassId} {ad : Nat → Nat} {A : Nat → Prop} (C : Cx eM p s m args c cX11_test 5 RX11 D kc A) {R : Int32 × St} {x1 : Int32} {x4 : Int32} {σ : St} (hR : RTi 0 0 p l e r_X11_test s m args below meth c cX11_test tM kc ad D A Q .boolean R.1 R.2) {k196 : St → Option (Int32 × St)} {k5 : St → Option (Int32 × St)} (hk196 : ∀ (σ : St) (H : Heap) (locs : List Loc) (ls : Array Slot), Dy tM kc ad D A s.heap σ H locs → lv_has ls 5 [(0, .ref (ad 0)), (1, .int x1), (4, .int x4)] → k196 σ = some R → W p l e r_X11_test s m args below meth c H locs 0 0 Q (F0 m 196 ls [])) (hk5 : ∀ (σ : St) (H : Heap) (locs : List Loc) (ls : Array Slot), Dy tM kc ad D A s.heap σ H locs → lv_has ls 5 [(0, .ref (ad 0)), (1, .int x1)] → k5 σ = some R → W p l e r_X11_test s m args below meth c H locs 0 0 Q (F0 m 5 ls [])) {H : Heap} {locs : List Loc} {ls : Array Slot} (Z : Dy tM kc ad D A s.heap σ H locs) (hl : lv_has ls 5 [(0, .ref (ad 0)), (1, .int x1), (4, .int x4)]) (h : f_X11_test_221 x1 x4 σ k196 k5 = some R) : W p l e r_X11_test s m args below meth c H locs 0 0 Q (F0 m 221 ls []) := by
  have hx := C.1.1
  have hb := C.1.2.1
  unfold f_X11_test_221 at h
  refine lv_aload_n hx hb dX11_test_221 rfl (lv_at hl 0 rfl) ?_
  obtain ⟨σ78, hσ78, h⟩ := ob h
  refine g_callVv eM_ok C Z (k_X11_pops hσ78) lk_X11_383 (by decide) rfl rfl hl (by decide) rfl (Nat.le_of_ble_eq_true rfl) (rest := []) rfl dX11_test_222 (fun H locs Z => ?_)
  refine lv_goto (tgt := 196) hx hb dX11_test_225 (by decide) ?_
  exact hk196 _ _ _ _ Z (lv_sub hl [0, 1, 2] rfl) h
set_option maxRecDepth 20000 in
theorem w_X11_test_228 {p : Program} {l : Launch} {e : Env} {s : State} {m : MethodId} {args : Array Value} {below : List Frame} {meth : Method} {c : Code} {Q : State → Prop} {D : va_G} {kc : Nat → ClassId} {ad : Nat → Nat} {A : Nat → Prop} (C : Cx eM p s m args c cX11_test 5 RX11 D kc A) {R : Int32 × St} {x1 : Int32} {x4 : Int32} {σ : St} (hR : RTi 0 0 p l e r_X11_test s m args below meth c cX11_test tM kc ad D A Q .boolean R.1 R.2) {k5 : St → Option (Int32 × St)} (hk5 : ∀ (σ : St) (H : Heap) (locs : List Loc) (ls : Array Slot), Dy tM kc ad D A s.heap σ H locs → lv_has ls 5 [(0, .ref (ad 0)), (1, .int x1)] → k5 σ = some R → W p l e r_X11_test s m args below meth c H locs 0 0 Q (F0 m 5 ls [])) {H : Heap} {locs : List Loc} {ls : Array Slot} (Z : Dy tM kc ad D A s.heap σ H locs) (hl : lv_has ls 5 [(0, .ref (ad 0)), (1, .int x1), (4, .int x4)]) (h : f_X11_test_228 x1 x4 σ k5 = some R) : W p l e r_X11_test s m args below meth c H locs 0 0 Q (F0 m 228 ls []) := by
  have hx := C.1.1
  have hb := C.1.2.1
  unfold f_X11_test_228 at h
  refine lv_aload_n hx hb dX11_test_228 rfl (lv_at hl 0 rfl) ?_
  refine lv_iload hx hb dX11_test_229 (lv_at hl 2 rfl) ?_
  obtain ⟨v79, ev79, h⟩ := lb h
  have hj : W p l e r_X11_test s m args below meth c H locs 0 0 Q (F0 m 241 ls [.int v79, .ref (ad 0)]) := by
    obtain ⟨σ80, hσ80, h⟩ := ob h
    refine g_callVv eM_ok C Z (k_X11_waits hσ80) lk_X11_378 (by decide) rfl rfl hl (by decide) rfl (Nat.le_of_ble_eq_true rfl) (rest := []) rfl dX11_test_241 (fun H locs Z => ?_)
    refine lv_goto (tgt := 5) hx hb dX11_test_244 (by decide) ?_
    exact hk5 _ _ _ _ Z (lv_sub hl [0, 1] rfl) h
  refine lv_if_eq (tgt := 239) hx hb dX11_test_231 (by decide) (fun c231 => ?_) (fun c231 => ?_)
  · rw [if_pos c231] at ev79
    refine lv_bipush (v := 12) hx hb dX11_test_239 (by decide) ?_
    exact tn_i ev79 hj
  · rw [if_neg c231] at ev79
    refine lv_bipush (v := 11) hx hb dX11_test_234 (by decide) ?_
    refine lv_goto (tgt := 241) hx hb dX11_test_236 (by decide) ?_
    exact tn_i ev79 hj
set_option maxRecDepth 20000 in
theorem w_X11_test_196 {p : Program} {l : Launch} {e : Env} {s : State} {m : MethodId} {args : Array Value} {below : List Frame} {meth : Method} {c : Code} {Q : State → Prop} {D : va_G} {kc : Nat → ClassId} {ad : Nat → Nat} {A : Nat → Prop} (C : Cx eM p s m args c cX11_test 5 RX11 D kc A) {R : Int32 × St} {x1 : Int32} {x4 : Int32} (hR : RTi 0 0 p l e r_X11_test s m args below meth c cX11_test tM kc ad D A Q .boolean R.1 R.2) {k5 : St → Option (Int32 × St)} (hk5 : ∀ (σ : St) (H : Heap) (locs : List Loc) (ls : Array Slot), Dy tM kc ad D A s.heap σ H locs → lv_has ls 5 [(0, .ref (ad 0)), (1, .int x1)] → k5 σ = some R → W p l e r_X11_test s m args below meth c H locs 0 0 Q (F0 m 5 ls [])) : ∀ (n : Nat) (σ : St) (H : Heap) (locs : List Loc) (ls : Array Slot), Dy tM kc ad D A s.heap σ H locs → lv_has ls 5 [(0, .ref (ad 0)), (1, .int x1), (4, .int x4)] → f_X11_test_196 x1 x4 k5 n σ = some R → W p l e r_X11_test s m args below meth c H locs 0 0 Q (F0 m 196 ls []) := by
  have hx := C.1.1
  have hb := C.1.2.1
  intro n
  induction n with
  | zero =>
    intro σ H locs ls Z hl h
    exact absurd (show none = some R from h) (by simp)
  | succ n ih =>
    intro σ H locs ls Z hl h
    rw [f_X11_test_196] at h
    refine lv_aload_n hx hb dX11_test_196 rfl (lv_at hl 0 rfl) ?_
    refine lv_iload_n hx hb dX11_test_197 rfl (lv_at hl 1 rfl) ?_
    refine lv_bipush (v := 11) hx hb dX11_test_198 (by decide) ?_
    obtain ⟨v76, hv76, h⟩ := ob h
    refine g_callVi eM_ok C Z (k_X11_isTop hv76) lk_X11_380 (by decide) rfl rfl hl (by decide) rfl (Nat.le_of_ble_eq_true rfl) (rest := []) rfl dX11_test_200 (fun H locs Z => ?_)
    refine lv_if_ne (tgt := 221) hx hb dX11_test_203 (by decide) (fun c203 => ?_) (fun c203 => ?_)
    · have h := im h c203
      exact w_X11_test_221 C hR ih hk5 Z (lv_sub hl [0, 1, 2] rfl) h
    · have h := ip h c203
      refine lv_iload hx hb dX11_test_206 (lv_at hl 2 rfl) ?_
      refine lv_if_ne (tgt := 228) hx hb dX11_test_208 (by decide) (fun c208 => ?_) (fun c208 => ?_)
      · have h := im h c208
        exact w_X11_test_228 C hR hk5 Z (lv_sub hl [0, 1, 2] rfl) h
      · have h := ip h c208
        refine lv_aload_n hx hb dX11_test_211 rfl (lv_at hl 0 rfl) ?_
        refine lv_iload_n hx hb dX11_test_212 rfl (lv_at hl 1 rfl) ?_
        refine lv_bipush (v := 12) hx hb dX11_test_213 (by decide) ?_
        obtain ⟨v77, hv77, h⟩ := ob h
        refine g_callVi eM_ok C Z (k_X11_isTop hv77) lk_X11_380 (by decide) rfl rfl hl (by decide) rfl (Nat.le_of_ble_eq_true rfl) (rest := []) rfl dX11_test_215 (fun H locs Z => ?_)
        refine lv_if_eq (tgt := 228) hx hb dX11_test_218 (by decide) (fun c218 => ?_) (fun c218 => ?_)
        · have h := ip h c218
          exact w_X11_test_228 C hR hk5 Z (lv_sub hl [0, 1, 2] rfl) h
        · have h := im h c218
          exact w_X11_test_221 C hR ih hk5 Z (lv_sub hl [0, 1, 2] rfl) h
set_option maxRecDepth 20000 in
theorem w_X11_test_192 {p : Program} {l : Launch} {e : Env} {s : State} {m : MethodId} {args : Array Value} {below : List Frame} {meth : Method} {c : Code} {Q : State → Prop} {D : va_G} {kc : Nat → ClassId} {ad : Nat → Nat} {A : Nat → Prop} (C : Cx eM p s m args c cX11_test 5 RX11 D kc A) {R : Int32 × St} {x1 : Int32} {x4 : Int32} {σ : St} (hR : RTi 0 0 p l e r_X11_test s m args below meth c cX11_test tM kc ad D A Q .boolean R.1 R.2) {k5 : St → Option (Int32 × St)} (hk5 : ∀ (σ : St) (H : Heap) (locs : List Loc) (ls : Array Slot), Dy tM kc ad D A s.heap σ H locs → lv_has ls 5 [(0, .ref (ad 0)), (1, .int x1)] → k5 σ = some R → W p l e r_X11_test s m args below meth c H locs 0 0 Q (F0 m 5 ls [])) {H : Heap} {locs : List Loc} {ls : Array Slot} (Z : Dy tM kc ad D A s.heap σ H locs) (hl : lv_has ls 5 [(0, .ref (ad 0)), (1, .int x1), (4, .int x4)]) (h : f_X11_test_192 x1 x4 σ k5 = some R) : W p l e r_X11_test s m args below meth c H locs 0 0 Q (F0 m 192 ls []) := by
  have hx := C.1.1
  have hb := C.1.2.1
  unfold f_X11_test_192 at h
  refine lv_aload_n hx hb dX11_test_192 rfl (lv_at hl 0 rfl) ?_
  obtain ⟨σ75, hσ75, h⟩ := ob h
  refine g_callVv eM_ok C Z (k_X11_skips hσ75) lk_X11_347 (by decide) rfl rfl hl (by decide) rfl (Nat.le_of_ble_eq_true rfl) (rest := []) rfl dX11_test_193 (fun H locs Z => ?_)
  exact w_X11_test_196 C hR hk5 _ _ _ _ _ Z (lv_sub hl [0, 1, 2] rfl) h
set_option maxRecDepth 20000 in
theorem w_X11_test_165 {p : Program} {l : Launch} {e : Env} {s : State} {m : MethodId} {args : Array Value} {below : List Frame} {meth : Method} {c : Code} {Q : State → Prop} {D : va_G} {kc : Nat → ClassId} {ad : Nat → Nat} {A : Nat → Prop} (C : Cx eM p s m args c cX11_test 5 RX11 D kc A) {R : Int32 × St} {x1 : Int32} {σ : St} (hR : RTi 0 0 p l e r_X11_test s m args below meth c cX11_test tM kc ad D A Q .boolean R.1 R.2) {k5 : St → Option (Int32 × St)} (hk5 : ∀ (σ : St) (H : Heap) (locs : List Loc) (ls : Array Slot), Dy tM kc ad D A s.heap σ H locs → lv_has ls 5 [(0, .ref (ad 0)), (1, .int x1)] → k5 σ = some R → W p l e r_X11_test s m args below meth c H locs 0 0 Q (F0 m 5 ls [])) {H : Heap} {locs : List Loc} {ls : Array Slot} (Z : Dy tM kc ad D A s.heap σ H locs) (hl : lv_has ls 5 [(0, .ref (ad 0)), (1, .int x1)]) (h : f_X11_test_165 x1 σ k5 = some R) : W p l e r_X11_test s m args below meth c H locs 0 0 Q (F0 m 165 ls []) := by
  have hx := C.1.1
  have hb := C.1.2.1
  unfold f_X11_test_165 at h
  refine lv_aload_n hx hb dX11_test_165 rfl (lv_at hl 0 rfl) ?_
  refine lv_ldc2 (v := 6385252) hx hb C.1.2.2.2.1 (C.1.2.2.2.2 _ wDL_X11_406) dX11_test_166 ?_
  obtain ⟨u71, hu71, h⟩ := ob h
  refine g_callVi eM_ok C Z (k_X11_isWord hu71) lk_X11_343 (by decide) rfl rfl hl (by decide) rfl (Nat.le_of_ble_eq_true rfl) (rest := []) rfl dX11_test_169 (fun H locs Z => ?_)
  refine lv_istore (lv' := [(4, .int u71.1), (0, .ref (ad 0)), (1, .int x1)]) hx hb dX11_test_172 hl (by decide) rfl (fun ls hl => ?_)
  refine lv_iload hx hb dX11_test_174 (lv_at hl 0 rfl) ?_
  refine lv_if_ne (tgt := 192) hx hb dX11_test_176 (by decide) (fun c176 => ?_) (fun c176 => ?_)
  · have h := im h c176
    exact w_X11_test_192 C hR hk5 Z (lv_sub hl [1, 2, 0] rfl) h
  · have h := ip h c176
    refine lv_aload_n hx hb dX11_test_179 rfl (lv_at hl 1 rfl) ?_
    refine lv_ldc2 (v := 28530) hx hb C.1.2.2.2.1 (C.1.2.2.2.2 _ wDL_X11_408) dX11_test_180 ?_
    obtain ⟨u72, hu72, h⟩ := ob h
    refine g_callVi eM_ok C Z (k_X11_isWord hu72) lk_X11_343 (by decide) rfl rfl hl (by decide) rfl (Nat.le_of_ble_eq_true rfl) (rest := []) rfl dX11_test_183 (fun H locs Z => ?_)
    refine lv_if_ne (tgt := 192) hx hb dX11_test_186 (by decide) (fun c186 => ?_) (fun c186 => ?_)
    · have h := im h c186
      exact w_X11_test_192 C hR hk5 Z (lv_sub hl [1, 2, 0] rfl) h
    · have h := ip h c186
      exact w_X11_test_189 C hR Z (lv_sub hl [1, 2] rfl) h
set_option maxRecDepth 20000 in
theorem w_X11_test_91 {p : Program} {l : Launch} {e : Env} {s : State} {m : MethodId} {args : Array Value} {below : List Frame} {meth : Method} {c : Code} {Q : State → Prop} {D : va_G} {kc : Nat → ClassId} {ad : Nat → Nat} {A : Nat → Prop} (C : Cx eM p s m args c cX11_test 5 RX11 D kc A) {R : Int32 × St} {x1 : Int32} (hR : RTi 0 0 p l e r_X11_test s m args below meth c cX11_test tM kc ad D A Q .boolean R.1 R.2) {k5 : St → Option (Int32 × St)} (hk5 : ∀ (σ : St) (H : Heap) (locs : List Loc) (ls : Array Slot), Dy tM kc ad D A s.heap σ H locs → lv_has ls 5 [(0, .ref (ad 0)), (1, .int x1)] → k5 σ = some R → W p l e r_X11_test s m args below meth c H locs 0 0 Q (F0 m 5 ls [])) : ∀ (n : Nat) (σ : St) (H : Heap) (locs : List Loc) (ls : Array Slot), Dy tM kc ad D A s.heap σ H locs → lv_has ls 5 [(0, .ref (ad 0)), (1, .int x1)] → f_X11_test_91 x1 k5 n σ = some R → W p l e r_X11_test s m args below meth c H locs 0 0 Q (F0 m 91 ls []) := by
  have hx := C.1.1
  have hb := C.1.2.1
  intro n
  induction n with
  | zero =>
    intro σ H locs ls Z hl h
    exact absurd (show none = some R from h) (by simp)
  | succ n ih =>
    intro σ H locs ls Z hl h
    rw [f_X11_test_91] at h
    refine lv_aload_n hx hb dX11_test_91 rfl (lv_at hl 0 rfl) ?_
    obtain ⟨u63, hu63, h⟩ := ob h
    refine g_callVi eM_ok C Z (k_X11_see hu63) lk_X11_329 (by decide) rfl rfl hl (by decide) rfl (Nat.le_of_ble_eq_true rfl) (rest := []) rfl dX11_test_92 (fun H locs Z => ?_)
    refine lv_bipush (v := 93) hx hb dX11_test_95 (by decide) ?_
    refine lv_icmp_ne (tgt := 165) hx hb dX11_test_97 (by decide) (fun c97 => ?_) (fun c97 => ?_)
    · have h := im h c97
      exact w_X11_test_165 C hR hk5 Z (lv_sub hl [0, 1] rfl) h
    · have h := ip h c97
      refine lv_aload_n hx hb dX11_test_100 rfl (lv_at hl 0 rfl) ?_
      refine lv_iload_n hx hb dX11_test_101 rfl (lv_at hl 1 rfl) ?_
      refine lv_bipush (v := 14) hx hb dX11_test_102 (by decide) ?_
      obtain ⟨v64, hv64, h⟩ := ob h
      refine g_callVi eM_ok C Z (k_X11_has hv64) lk_X11_389 (by decide) rfl rfl hl (by decide) rfl (Nat.le_of_ble_eq_true rfl) (rest := []) rfl dX11_test_104 (fun H locs Z => ?_)
      refine lv_if_eq (tgt := 165) hx hb dX11_test_107 (by decide) (fun c107 => ?_) (fun c107 => ?_)
      · have h := ip h c107
        exact w_X11_test_165 C hR hk5 Z (lv_sub hl [0, 1] rfl) h
      · have h := im h c107
        exact w_X11_test_110 C hR ih hk5 _ _ _ _ _ Z (lv_sub hl [0, 1] rfl) h
set_option maxRecDepth 20000 in
theorem w_X11_test_5 {p : Program} {l : Launch} {e : Env} {s : State} {m : MethodId} {args : Array Value} {below : List Frame} {meth : Method} {c : Code} {Q : State → Prop} {D : va_G} {kc : Nat → ClassId} {ad : Nat → Nat} {A : Nat → Prop} (C : Cx eM p s m args c cX11_test 5 RX11 D kc A) {R : Int32 × St} {x1 : Int32} (hR : RTi 0 0 p l e r_X11_test s m args below meth c cX11_test tM kc ad D A Q .boolean R.1 R.2) : ∀ (n : Nat) (σ : St) (H : Heap) (locs : List Loc) (ls : Array Slot), Dy tM kc ad D A s.heap σ H locs → lv_has ls 5 [(0, .ref (ad 0)), (1, .int x1)] → f_X11_test_5 x1 n σ = some R → W p l e r_X11_test s m args below meth c H locs 0 0 Q (F0 m 5 ls []) := by
  have hx := C.1.1
  have hb := C.1.2.1
  intro n
  induction n with
  | zero =>
    intro σ H locs ls Z hl h
    exact absurd (show none = some R from h) (by simp)
  | succ n ih =>
    intro σ H locs ls Z hl h
    rw [f_X11_test_5] at h
    refine lv_aload_n hx hb dX11_test_5 rfl (lv_at hl 0 rfl) ?_
    obtain ⟨u54, hu54, h⟩ := ob h
    refine g_callVi eM_ok C Z (k_X11_see hu54) lk_X11_329 (by decide) rfl rfl hl (by decide) rfl (Nat.le_of_ble_eq_true rfl) (rest := []) rfl dX11_test_6 (fun H locs Z => ?_)
    refine lv_istore_n (lv' := [(2, .int u54.1), (0, .ref (ad 0)), (1, .int x1)]) hx hb dX11_test_9 rfl hl (by decide) rfl (fun ls hl => ?_)
    refine lv_aload_n hx hb dX11_test_10 rfl (lv_at hl 1 rfl) ?_
    refine lv_ldc2 (v := 28271) hx hb C.1.2.2.2.1 (C.1.2.2.2.2 _ wDL_X11_398) dX11_test_11 ?_
    obtain ⟨u55, hu55, h⟩ := ob h
    refine g_callVi eM_ok C Z (k_X11_isWord hu55) lk_X11_343 (by decide) rfl rfl hl (by decide) rfl (Nat.le_of_ble_eq_true rfl) (rest := []) rfl dX11_test_14 (fun H locs Z => ?_)
    refine lv_istore_n (lv' := [(3, .int u55.1), (2, .int u54.1), (0, .ref (ad 0)), (1, .int x1)]) hx hb dX11_test_17 rfl hl (by decide) rfl (fun ls hl => ?_)
    refine lv_iload_n hx hb dX11_test_18 rfl (lv_at hl 0 rfl) ?_
    refine lv_if_ne (tgt := 28) hx hb dX11_test_19 (by decide) (fun c19 => ?_) (fun c19 => ?_)
    · have h := im h c19
      exact w_X11_test_28 C hR ih Z (lv_sub hl [2, 3, 0] rfl) h
    · have h := ip h c19
      refine lv_iload_n hx hb dX11_test_22 rfl (lv_at hl 1 rfl) ?_
      refine lv_bipush (v := 91) hx hb dX11_test_23 (by decide) ?_
      refine lv_icmp_ne (tgt := 77) hx hb dX11_test_25 (by decide) (fun c25 => ?_) (fun c25 => ?_)
      · have h := im h c25
        refine lv_aload_n hx hb dX11_test_77 rfl (lv_at hl 2 rfl) ?_
        obtain ⟨u56, hu56, h⟩ := ob h
        refine g_callVi eM_ok C Z (k_X11_fact hu56) lk_X11_400 (by decide) rfl rfl hl (by decide) rfl (Nat.le_of_ble_eq_true rfl) (rest := []) rfl dX11_test_78 (fun H locs Z => ?_)
        refine lv_if_ne (tgt := 86) hx hb dX11_test_81 (by decide) (fun c81 => ?_) (fun c81 => ?_)
        · have h := im h c81
          refine lv_aload_n hx hb dX11_test_86 rfl (lv_at hl 2 rfl) ?_
          refine lv_iload_n hx hb dX11_test_87 rfl (lv_at hl 3 rfl) ?_
          obtain ⟨σ57, hσ57, h⟩ := ob h
          refine g_callVv eM_ok C Z (k_X11_endedFact hσ57) lk_X11_403 (by decide) rfl rfl hl (by decide) rfl (Nat.le_of_ble_eq_true rfl) (rest := []) rfl dX11_test_88 (fun H locs Z => ?_)
          exact w_X11_test_91 C hR ih _ _ _ _ _ Z (lv_sub hl [2, 3] rfl) h
        · have h := ip h c81
          refine lv_iconst (v := 0) hx hb dX11_test_84 (by decide) ?_
          obtain rfl := Option.some.inj h
          exact hR _ _ _ _ _ Z dX11_test_85 rfl
      · have h := ip h c25
        exact w_X11_test_28 C hR ih Z (lv_sub hl [2, 3, 0] rfl) h
set_option maxRecDepth 20000 in
theorem w_X11_test_0 {p : Program} {l : Launch} {e : Env} {s : State} {m : MethodId} {args : Array Value} {below : List Frame} {meth : Method} {c : Code} {Q : State → Prop} {D : va_G} {kc : Nat → ClassId} {ad : Nat → Nat} {A : Nat → Prop} (C : Cx eM p s m args c cX11_test 5 RX11 D kc A) {R : Int32 × St} {σ : St} (hR : RTi 0 0 p l e r_X11_test s m args below meth c cX11_test tM kc ad D A Q .boolean R.1 R.2) {H : Heap} {locs : List Loc} {ls : Array Slot} (Z : Dy tM kc ad D A s.heap σ H locs) (hl : lv_has ls 5 [(0, .ref (ad 0))]) (h : f_X11_test σ = some R) : W p l e r_X11_test s m args below meth c H locs 0 0 Q (F0 m 0 ls []) := by
  have hx := C.1.1
  have hb := C.1.2.1
  unfold f_X11_test at h
  refine lv_aload_n hx hb dX11_test_0 rfl (lv_at hl 0 rfl) ?_
  refine rg_X11_356 C Z dX11_test_1 ?_
  obtain ⟨v53, ev53, h⟩ := lb h
  refine tn_i ev53 ?_
  refine lv_istore_n (lv' := [(1, .int v53), (0, .ref (ad 0))]) hx hb dX11_test_4 rfl hl (by decide) rfl (fun ls hl => ?_)
  exact w_X11_test_5 C hR _ _ _ _ _ Z (lv_sub hl [1, 0] rfl) h
theorem k_X11_test {l : Launch} {kc : Nat → ClassId} {ad : Nat → Nat} {D : va_G} {σ : St} {R : Int32 × St} (h : f_X11_test σ = some R) : KC eM tM kc ad D l yX11_test (.code yX11_test cX11_test 5 (some .boolean)) r_X11_test [.ref (ad 0)] (some (.int R.1)) σ R.2 := by
  refine g_enter (by decide) (Nat.le_of_ble_eq_true rfl) ?_
  intro p e s m args below meth c A hA C hr hlocks Z ls hl
  have hl : lv_has ls 5 [(0, .ref (ad 0))] := hl
  exact w_X11_test_0 C (g_RTi C.1.1 C.1.2.1 hr hlocks hA)  Z hl h
def r_X11_whatFollows : Room := { frames := 3, cells := 0, slots := 0, locals := 67 }
set_option maxRecDepth 20000 in
theorem w_X11_whatFollows_28 {p : Program} {l : Launch} {e : Env} {s : State} {m : MethodId} {args : Array Value} {below : List Frame} {meth : Method} {c : Code} {Q : State → Prop} {D : va_G} {kc : Nat → ClassId} {ad : Nat → Nat} {A : Nat → Prop} (C : Cx eM p s m args c cX11_whatFollows 3 RX11 D kc A) {R : Int32 × St} {x1 : Int32} {x2 : Int32} {σ : St} (hR : RTi 0 0 p l e r_X11_whatFollows s m args below meth c cX11_whatFollows tM kc ad D A Q .boolean R.1 R.2) {H : Heap} {locs : List Loc} {ls : Array Slot} (Z : Dy tM kc ad D A s.heap σ H locs) (hl : lv_has ls 3 [(0, .ref (ad 0)), (1, .int x1), (2, .int x2)]) (h : f_X11_whatFollows_28 x1 x2 σ = some R) : W p l e r_X11_whatFollows s m args below meth c H locs 0 0 Q (F0 m 28 ls []) := by
  have hx := C.1.1
  have hb := C.1.2.1
  unfold f_X11_whatFollows_28 at h
  refine lv_aload_n hx hb dX11_whatFollows_28 rfl (lv_at hl 0 rfl) ?_
  refine rg_X11_74 C Z dX11_whatFollows_29 ?_
  refine lv_iload_n hx hb dX11_whatFollows_32 rfl (lv_at hl 1 rfl) ?_
  refine lv_iconst (v := 2) hx hb dX11_whatFollows_33 (by decide) ?_
  refine lv_iload_n hx hb dX11_whatFollows_34 rfl (lv_at hl 2 rfl) ?_
  refine lv_iadd hx hb dX11_whatFollows_35 ?_
  obtain ⟨σ17, hσ17, h⟩ := ob h
  refine g_iast C Z iaM22 hσ17 dX11_whatFollows_36 (fun H locs Z => ?_)
  refine lv_iconst (v := 1) hx hb dX11_whatFollows_37 (by decide) ?_
  obtain rfl := Option.some.inj h
  exact hR _ _ _ _ _ Z dX11_whatFollows_38 rfl
set_option maxRecDepth 20000 in
theorem w_X11_whatFollows_45 {p : Program} {l : Launch} {e : Env} {s : State} {m : MethodId} {args : Array Value} {below : List Frame} {meth : Method} {c : Code} {Q : State → Prop} {D : va_G} {kc : Nat → ClassId} {ad : Nat → Nat} {A : Nat → Prop} (C : Cx eM p s m args c cX11_whatFollows 3 RX11 D kc A) {R : Int32 × St} {σ : St} (hR : RTi 0 0 p l e r_X11_whatFollows s m args below meth c cX11_whatFollows tM kc ad D A Q .boolean R.1 R.2) {H : Heap} {locs : List Loc} {ls : Array Slot} (Z : Dy tM kc ad D A s.heap σ H locs) (hl : lv_has ls 3 [(0, .ref (ad 0))]) (h : f_X11_whatFollows_45 σ = some R) : W p l e r_X11_whatFollows s m args below meth c H locs 0 0 Q (F0 m 45 ls []) := by
  have hx := C.1.1
  have hb := C.1.2.1
  unfold f_X11_whatFollows_45 at h
  refine lv_aload_n hx hb dX11_whatFollows_45 rfl (lv_at hl 0 rfl) ?_
  refine lv_iconst (v := 0) hx hb dX11_whatFollows_46 (by decide) ?_
  refine lv_aload_n hx hb dX11_whatFollows_47 rfl (lv_at hl 0 rfl) ?_
  refine rg_X11_326 C Z dX11_whatFollows_48 ?_
  obtain ⟨u18, hu18, h⟩ := ob h
  refine g_callVi eM_ok C Z (k_X11_fails hu18) lk_X11_337 (by decide) rfl rfl hl (by decide) rfl (Nat.le_of_ble_eq_true rfl) (rest := []) rfl dX11_whatFollows_51 (fun H locs Z => ?_)
  obtain rfl := Option.some.inj h
  exact hR _ _ _ _ _ Z dX11_whatFollows_54 (nar_b _)
set_option maxRecDepth 20000 in
theorem w_X11_whatFollows_7 {p : Program} {l : Launch} {e : Env} {s : State} {m : MethodId} {args : Array Value} {below : List Frame} {meth : Method} {c : Code} {Q : State → Prop} {D : va_G} {kc : Nat → ClassId} {ad : Nat → Nat} {A : Nat → Prop} (C : Cx eM p s m args c cX11_whatFollows 3 RX11 D kc A) {R : Int32 × St} {x1 : Int32} (hR : RTi 0 0 p l e r_X11_whatFollows s m args below meth c cX11_whatFollows tM kc ad D A Q .boolean R.1 R.2) : ∀ (n : Nat) (x2 : Int32) (σ : St) (H : Heap) (locs : List Loc) (ls : Array Slot), Dy tM kc ad D A s.heap σ H locs → lv_has ls 3 [(0, .ref (ad 0)), (1, .int x1), (2, .int x2)] → f_X11_whatFollows_7 x1 n x2 σ = some R → W p l e r_X11_whatFollows s m args below meth c H locs 0 0 Q (F0 m 7 ls []) := by
  have hx := C.1.1
  have hb := C.1.2.1
  intro n
  induction n with
  | zero =>
    intro x2 σ H locs ls Z hl h
    exact absurd (show none = some R from h) (by simp)
  | succ n ih =>
    intro x2 σ H locs ls Z hl h
    rw [f_X11_whatFollows_7] at h
    refine lv_iload_n hx hb dX11_whatFollows_7 rfl (lv_at hl 2 rfl) ?_
    refine lv_iconst (v := 5) hx hb dX11_whatFollows_8 (by decide) ?_
    refine lv_icmp_ge (tgt := 45) hx hb dX11_whatFollows_9 (by decide) (fun c9 => ?_) (fun c9 => ?_)
    · have h := ip h c9
      exact w_X11_whatFollows_45 C hR Z (lv_sub hl [0] rfl) h
    · have h := im h c9
      refine lv_aload_n hx hb dX11_whatFollows_12 rfl (lv_at hl 0 rfl) ?_
      refine lv_aload_n hx hb dX11_whatFollows_13 rfl (lv_at hl 0 rfl) ?_
      refine rg_X11_133 C Z dX11_whatFollows_14 ?_
      refine lv_iload_n hx hb dX11_whatFollows_17 rfl (lv_at hl 2 rfl) ?_
      obtain ⟨v14, hv14, h⟩ := ob h
      refine g_lald C Z iaM32 hv14 dX11_whatFollows_18 ?_
      obtain ⟨u15, hu15, h⟩ := ob h
      refine g_callVi eM_ok C Z (k_X11_takesWord hu15) lk_X11_410 (by decide) rfl rfl hl (by decide) rfl (Nat.le_of_ble_eq_true rfl) (rest := []) rfl dX11_whatFollows_19 (fun H locs Z => ?_)
      refine lv_if_ne (tgt := 28) hx hb dX11_whatFollows_22 (by decide) (fun c22 => ?_) (fun c22 => ?_)
      · have h := im h c22
        exact w_X11_whatFollows_28 C hR Z (lv_sub hl [0, 1, 2] rfl) h
      · have h := ip h c22
        refine lv_goto (tgt := 39) hx hb dX11_whatFollows_25 (by decide) ?_
        obtain ⟨v16, ev16, h⟩ := lb h
        refine lv_iinc (v := v16) (lv' := [(2, .int v16), (0, .ref (ad 0)), (1, .int x1)]) hx hb dX11_whatFollows_39 hl (k := 2) rfl (by rw [ev16]; rfl) (by decide) rfl (fun ls hl => ?_)
        refine lv_goto (tgt := 7) hx hb dX11_whatFollows_42 (by decide) ?_
        exact ih _ _ _ _ _ Z (lv_sub hl [1, 2, 0] rfl) h
set_option maxRecDepth 20000 in
theorem w_X11_whatFollows_0 {p : Program} {l : Launch} {e : Env} {s : State} {m : MethodId} {args : Array Value} {below : List Frame} {meth : Method} {c : Code} {Q : State → Prop} {D : va_G} {kc : Nat → ClassId} {ad : Nat → Nat} {A : Nat → Prop} (C : Cx eM p s m args c cX11_whatFollows 3 RX11 D kc A) {R : Int32 × St} {x1 : Int32} {σ : St} (hR : RTi 0 0 p l e r_X11_whatFollows s m args below meth c cX11_whatFollows tM kc ad D A Q .boolean R.1 R.2) {H : Heap} {locs : List Loc} {ls : Array Slot} (Z : Dy tM kc ad D A s.heap σ H locs) (hl : lv_has ls 3 [(0, .ref (ad 0)), (1, .int x1)]) (h : f_X11_whatFollows x1 σ = some R) : W p l e r_X11_whatFollows s m args below meth c H locs 0 0 Q (F0 m 0 ls []) := by
  have hx := C.1.1
  have hb := C.1.2.1
  unfold f_X11_whatFollows at h
  refine lv_aload_n hx hb dX11_whatFollows_0 rfl (lv_at hl 0 rfl) ?_
  obtain ⟨u13, hu13, h⟩ := ob h
  refine g_callVi eM_ok C Z (k_X11_see hu13) lk_X11_329 (by decide) rfl rfl hl (by decide) rfl (Nat.le_of_ble_eq_true rfl) (rest := []) rfl dX11_whatFollows_1 (fun H locs Z => ?_)
  refine lv_pop hx hb dX11_whatFollows_4 rfl ?_
  refine lv_iconst (v := 0) hx hb dX11_whatFollows_5 (by decide) ?_
  refine lv_istore_n (lv' := [(2, .int 0), (0, .ref (ad 0)), (1, .int x1)]) hx hb dX11_whatFollows_6 rfl hl (by decide) rfl (fun ls hl => ?_)
  exact w_X11_whatFollows_7 C hR _ _ _ _ _ _ Z (lv_sub hl [1, 2, 0] rfl) h
theorem k_X11_whatFollows {l : Launch} {kc : Nat → ClassId} {ad : Nat → Nat} {D : va_G} {x1 : Int32} {σ : St} {R : Int32 × St} (h : f_X11_whatFollows x1 σ = some R) : KC eM tM kc ad D l yX11_whatFollows (.code yX11_whatFollows cX11_whatFollows 3 (some .boolean)) r_X11_whatFollows [.ref (ad 0), .int x1] (some (.int R.1)) σ R.2 := by
  refine g_enter (by decide) (Nat.le_of_ble_eq_true rfl) ?_
  intro p e s m args below meth c A hA C hr hlocks Z ls hl
  have hl : lv_has ls 3 [(0, .ref (ad 0)), (1, .int x1)] := hl
  exact w_X11_whatFollows_0 C (g_RTi C.1.1 C.1.2.1 hr hlocks hA)  Z hl h
def r_X11_clause : Room := { frames := 6, cells := 0, slots := 0, locals := 139 }
set_option maxRecDepth 20000 in
theorem w_X11_clause_380 {p : Program} {l : Launch} {e : Env} {s : State} {m : MethodId} {args : Array Value} {below : List Frame} {meth : Method} {c : Code} {Q : State → Prop} {D : va_G} {kc : Nat → ClassId} {ad : Nat → Nat} {A : Nat → Prop} (C : Cx eM p s m args c cX11_clause 9 RX11 D kc A) {R : Int32 × St} {x7 : Int32} {σ : St} (hR : RTi 0 0 p l e r_X11_clause s m args below meth c cX11_clause tM kc ad D A Q .boolean R.1 R.2) {H : Heap} {locs : List Loc} {ls : Array Slot} (Z : Dy tM kc ad D A s.heap σ H locs) (hl : lv_has ls 9 [(0, .ref (ad 0)), (7, .int x7)]) (h : f_X11_clause_380 x7 σ = some R) : W p l e r_X11_clause s m args below meth c H locs 0 0 Q (F0 m 380 ls []) := by
  have hx := C.1.1
  have hb := C.1.2.1
  unfold f_X11_clause_380 at h
  refine lv_aload_n hx hb dX11_clause_380 rfl (lv_at hl 0 rfl) ?_
  refine rg_X11_86 C Z dX11_clause_381 ?_
  refine lv_iload hx hb dX11_clause_384 (lv_at hl 1 rfl) ?_
  refine lv_aload_n hx hb dX11_clause_386 rfl (lv_at hl 0 rfl) ?_
  refine rg_X11_353 C Z dX11_clause_387 ?_
  obtain ⟨σ109, hσ109, h⟩ := ob h
  refine g_iast C Z iaM26 hσ109 dX11_clause_390 (fun H locs Z => ?_)
  refine lv_iconst (v := 1) hx hb dX11_clause_391 (by decide) ?_
  obtain rfl := Option.some.inj h
  exact hR _ _ _ _ _ Z dX11_clause_392 rfl
set_option maxRecDepth 20000 in
theorem w_X11_clause_361 {p : Program} {l : Launch} {e : Env} {s : State} {m : MethodId} {args : Array Value} {below : List Frame} {meth : Method} {c : Code} {Q : State → Prop} {D : va_G} {kc : Nat → ClassId} {ad : Nat → Nat} {A : Nat → Prop} (C : Cx eM p s m args c cX11_clause 9 RX11 D kc A) {R : Int32 × St} {x7 : Int32} {σ : St} (hR : RTi 0 0 p l e r_X11_clause s m args below meth c cX11_clause tM kc ad D A Q .boolean R.1 R.2) {H : Heap} {locs : List Loc} {ls : Array Slot} (Z : Dy tM kc ad D A s.heap σ H locs) (hl : lv_has ls 9 [(0, .ref (ad 0)), (7, .int x7)]) (h : f_X11_clause_361 x7 σ = some R) : W p l e r_X11_clause s m args below meth c H locs 0 0 Q (F0 m 361 ls []) := by
  have hx := C.1.1
  have hb := C.1.2.1
  unfold f_X11_clause_361 at h
  refine lv_aload_n hx hb dX11_clause_361 rfl (lv_at hl 0 rfl) ?_
  refine rg_X11_89 C Z dX11_clause_362 ?_
  refine lv_iload hx hb dX11_clause_365 (lv_at hl 1 rfl) ?_
  obtain ⟨v107, hv107, h⟩ := ob h
  refine g_iald C Z iaM27 hv107 dX11_clause_367 ?_
  refine lv_if_le (tgt := 380) hx hb dX11_clause_368 (by decide) (fun c368 => ?_) (fun c368 => ?_)
  · have h := ip h c368
    exact w_X11_clause_380 C hR Z (lv_sub hl [0, 1] rfl) h
  · have h := im h c368
    refine lv_aload_n hx hb dX11_clause_371 rfl (lv_at hl 0 rfl) ?_
    obtain ⟨u108, hu108, h⟩ := ob h
    refine g_callVi eM_ok C Z (k_X11_test hu108) lk_X11_430 (by decide) rfl rfl hl (by decide) rfl (Nat.le_of_ble_eq_true rfl) (rest := []) rfl dX11_clause_372 (fun H locs Z => ?_)
    refine lv_if_ne (tgt := 380) hx hb dX11_clause_375 (by decide) (fun c375 => ?_) (fun c375 => ?_)
    · have h := im h c375
      exact w_X11_clause_380 C hR Z (lv_sub hl [0, 1] rfl) h
    · have h := ip h c375
      refine lv_iconst (v := 0) hx hb dX11_clause_378 (by decide) ?_
      obtain rfl := Option.some.inj h
      exact hR _ _ _ _ _ Z dX11_clause_379 rfl
set_option maxRecDepth 20000 in
theorem w_X11_clause_360 {p : Program} {l : Launch} {e : Env} {s : State} {m : MethodId} {args : Array Value} {below : List Frame} {meth : Method} {c : Code} {Q : State → Prop} {D : va_G} {kc : Nat → ClassId} {ad : Nat → Nat} {A : Nat → Prop} (C : Cx eM p s m args c cX11_clause 9 RX11 D kc A) {R : Int32 × St} {x7 : Int32} {y1 : Int32} {y2 : Int32} {σ : St} (hR : RTi 0 0 p l e r_X11_clause s m args below meth c cX11_clause tM kc ad D A Q .boolean R.1 R.2) {H : Heap} {locs : List Loc} {ls : Array Slot} (Z : Dy tM kc ad D A s.heap σ H locs) (hl : lv_has ls 9 [(0, .ref (ad 0)), (7, .int x7)]) (h : f_X11_clause_360 x7 y1 y2 σ = some R) : W p l e r_X11_clause s m args below meth c H locs 0 0 Q (F0 m 360 ls [.int y2, .int y1, .ref (ad 27)]) := by
  have hx := C.1.1
  have hb := C.1.2.1
  unfold f_X11_clause_360 at h
  obtain ⟨σ106, hσ106, h⟩ := ob h
  refine g_iast C Z iaM27 hσ106 dX11_clause_360 (fun H locs Z => ?_)
  exact w_X11_clause_361 C hR Z (lv_sub hl [0, 1] rfl) h
set_option maxRecDepth 20000 in
theorem w_X11_clause_302 {p : Program} {l : Launch} {e : Env} {s : State} {m : MethodId} {args : Array Value} {below : List Frame} {meth : Method} {c : Code} {Q : State → Prop} {D : va_G} {kc : Nat → ClassId} {ad : Nat → Nat} {A : Nat → Prop} (C : Cx eM p s m args c cX11_clause 9 RX11 D kc A) {R : Int32 × St} {x7 : Int32} {σ : St} (hR : RTi 0 0 p l e r_X11_clause s m args below meth c cX11_clause tM kc ad D A Q .boolean R.1 R.2) {H : Heap} {locs : List Loc} {ls : Array Slot} (Z : Dy tM kc ad D A s.heap σ H locs) (hl : lv_has ls 9 [(0, .ref (ad 0)), (7, .int x7)]) (h : f_X11_clause_302 x7 σ = some R) : W p l e r_X11_clause s m args below meth c H locs 0 0 Q (F0 m 302 ls []) := by
  have hx := C.1.1
  have hb := C.1.2.1
  unfold f_X11_clause_302 at h
  refine lv_aload_n hx hb dX11_clause_302 rfl (lv_at hl 0 rfl) ?_
  refine rg_X11_83 C Z dX11_clause_303 ?_
  refine lv_iload hx hb dX11_clause_306 (lv_at hl 1 rfl) ?_
  refine lv_aload_n hx hb dX11_clause_308 rfl (lv_at hl 0 rfl) ?_
  refine rg_X11_353 C Z dX11_clause_309 ?_
  obtain ⟨σ102, hσ102, h⟩ := ob h
  refine g_iast C Z iaM25 hσ102 dX11_clause_312 (fun H locs Z => ?_)
  refine lv_aload_n hx hb dX11_clause_313 rfl (lv_at hl 0 rfl) ?_
  refine rg_X11_74 C Z dX11_clause_314 ?_
  refine lv_iload hx hb dX11_clause_317 (lv_at hl 1 rfl) ?_
  obtain ⟨v103, hv103, h⟩ := ob h
  refine g_iald C Z iaM22 hv103 dX11_clause_319 ?_
  refine lv_bipush (v := 7) hx hb dX11_clause_320 (by decide) ?_
  refine lv_icmp_eq (tgt := 361) hx hb dX11_clause_322 (by decide) (fun c322 => ?_) (fun c322 => ?_)
  · have h := ip h c322
    exact w_X11_clause_361 C hR Z (lv_sub hl [0, 1] rfl) h
  · have h := im h c322
    refine lv_aload_n hx hb dX11_clause_325 rfl (lv_at hl 0 rfl) ?_
    refine rg_X11_89 C Z dX11_clause_326 ?_
    refine lv_iload hx hb dX11_clause_329 (lv_at hl 1 rfl) ?_
    refine lv_aload_n hx hb dX11_clause_331 rfl (lv_at hl 0 rfl) ?_
    refine lv_ldc2 (v := 26982) hx hb C.1.2.2.2.1 (C.1.2.2.2.2 _ wDL_X11_426) dX11_clause_332 ?_
    obtain ⟨u104, hu104, h⟩ := ob h
    refine g_callVi eM_ok C Z (k_X11_takesWord hu104) lk_X11_410 (by decide) rfl rfl hl (by decide) rfl (Nat.le_of_ble_eq_true rfl) (rest := [.int x7, .ref (ad 27)]) rfl dX11_clause_335 (fun H locs Z => ?_)
    refine lv_if_eq (tgt := 345) hx hb dX11_clause_338 (by decide) (fun c338 => ?_) (fun c338 => ?_)
    · have h := ip h c338
      refine lv_aload_n hx hb dX11_clause_345 rfl (lv_at hl 0 rfl) ?_
      refine lv_ldc2 (v := 129117125440371) hx hb C.1.2.2.2.1 (C.1.2.2.2.2 _ wDL_X11_428) dX11_clause_346 ?_
      obtain ⟨u105, hu105, h⟩ := ob h
      refine g_callVi eM_ok C Z (k_X11_takesWord hu105) lk_X11_410 (by decide) rfl rfl hl (by decide) rfl (Nat.le_of_ble_eq_true rfl) (rest := [.int x7, .ref (ad 27)]) rfl dX11_clause_349 (fun H locs Z => ?_)
      refine lv_if_eq (tgt := 359) hx hb dX11_clause_352 (by decide) (fun c352 => ?_) (fun c352 => ?_)
      · have h := ip h c352
        refine lv_iconst (v := 0) hx hb dX11_clause_359 (by decide) ?_
        exact w_X11_clause_360 C hR Z (lv_sub hl [0, 1] rfl) h
      · have h := im h c352
        refine lv_iconst (v := 2) hx hb dX11_clause_355 (by decide) ?_
        refine lv_goto (tgt := 360) hx hb dX11_clause_356 (by decide) ?_
        exact w_X11_clause_360 C hR Z (lv_sub hl [0, 1] rfl) h
    · have h := im h c338
      refine lv_iconst (v := 1) hx hb dX11_clause_341 (by decide) ?_
      refine lv_goto (tgt := 360) hx hb dX11_clause_342 (by decide) ?_
      exact w_X11_clause_360 C hR Z (lv_sub hl [0, 1] rfl) h
set_option maxRecDepth 20000 in
theorem w_X11_clause_209 {p : Program} {l : Launch} {e : Env} {s : State} {m : MethodId} {args : Array Value} {below : List Frame} {meth : Method} {c : Code} {Q : State → Prop} {D : va_G} {kc : Nat → ClassId} {ad : Nat → Nat} {A : Nat → Prop} (C : Cx eM p s m args c cX11_clause 9 RX11 D kc A) {R : Int32 × St} {x7 : Int32} {σ : St} (hR : RTi 0 0 p l e r_X11_clause s m args below meth c cX11_clause tM kc ad D A Q .boolean R.1 R.2) {H : Heap} {locs : List Loc} {ls : Array Slot} (Z : Dy tM kc ad D A s.heap σ H locs) (hl : lv_has ls 9 [(0, .ref (ad 0)), (7, .int x7)]) (h : f_X11_clause_209 x7 σ = some R) : W p l e r_X11_clause s m args below meth c H locs 0 0 Q (F0 m 209 ls []) := by
  have hx := C.1.1
  have hb := C.1.2.1
  unfold f_X11_clause_209 at h
  refine lv_aload_n hx hb dX11_clause_209 rfl (lv_at hl 0 rfl) ?_
  obtain ⟨u99, hu99, h⟩ := ob h
  refine g_callVi eM_ok C Z (k_X11_sum hu99) lk_X11_395 (by decide) rfl rfl hl (by decide) rfl (Nat.le_of_ble_eq_true rfl) (rest := []) rfl dX11_clause_210 (fun H locs Z => ?_)
  refine lv_if_ne (tgt := 302) hx hb dX11_clause_213 (by decide) (fun c213 => ?_) (fun c213 => ?_)
  · have h := im h c213
    exact w_X11_clause_302 C hR Z (lv_sub hl [0, 1] rfl) h
  · have h := ip h c213
    refine lv_iconst (v := 0) hx hb dX11_clause_216 (by decide) ?_
    obtain rfl := Option.some.inj h
    exact hR _ _ _ _ _ Z dX11_clause_217 rfl
set_option maxRecDepth 20000 in
theorem w_X11_clause_228 {p : Program} {l : Launch} {e : Env} {s : State} {m : MethodId} {args : Array Value} {below : List Frame} {meth : Method} {c : Code} {Q : State → Prop} {D : va_G} {kc : Nat → ClassId} {ad : Nat → Nat} {A : Nat → Prop} (C : Cx eM p s m args c cX11_clause 9 RX11 D kc A) {R : Int32 × St} {x7 : Int32} {σ : St} (hR : RTi 0 0 p l e r_X11_clause s m args below meth c cX11_clause tM kc ad D A Q .boolean R.1 R.2) {H : Heap} {locs : List Loc} {ls : Array Slot} (Z : Dy tM kc ad D A s.heap σ H locs) (hl : lv_has ls 9 [(0, .ref (ad 0)), (7, .int x7)]) (h : f_X11_clause_228 x7 σ = some R) : W p l e r_X11_clause s m args below meth c H locs 0 0 Q (F0 m 228 ls []) := by
  have hx := C.1.1
  have hb := C.1.2.1
  unfold f_X11_clause_228 at h
  refine lv_aload_n hx hb dX11_clause_228 rfl (lv_at hl 0 rfl) ?_
  refine lv_iload hx hb dX11_clause_229 (lv_at hl 1 rfl) ?_
  obtain ⟨u100, hu100, h⟩ := ob h
  refine g_callVi eM_ok C Z (k_X11_whatFollows hu100) lk_X11_423 (by decide) rfl rfl hl (by decide) rfl (Nat.le_of_ble_eq_true rfl) (rest := []) rfl dX11_clause_231 (fun H locs Z => ?_)
  refine lv_if_ne (tgt := 302) hx hb dX11_clause_234 (by decide) (fun c234 => ?_) (fun c234 => ?_)
  · have h := im h c234
    exact w_X11_clause_302 C hR Z (lv_sub hl [0, 1] rfl) h
  · have h := ip h c234
    refine lv_iconst (v := 0) hx hb dX11_clause_237 (by decide) ?_
    obtain rfl := Option.some.inj h
    exact hR _ _ _ _ _ Z dX11_clause_238 rfl
set_option maxRecDepth 20000 in
theorem w_X11_clause_283 {p : Program} {l : Launch} {e : Env} {s : State} {m : MethodId} {args : Array Value} {below : List Frame} {meth : Method} {c : Code} {Q : State → Prop} {D : va_G} {kc : Nat → ClassId} {ad : Nat → Nat} {A : Nat → Prop} (C : Cx eM p s m args c cX11_clause 9 RX11 D kc A) {R : Int32 × St} {x8 : Int32} {σ : St} (hR : RTi 0 0 p l e r_X11_clause s m args below meth c cX11_clause tM kc ad D A Q .boolean R.1 R.2) {H : Heap} {locs : List Loc} {ls : Array Slot} (Z : Dy tM kc ad D A s.heap σ H locs) (hl : lv_has ls 9 [(0, .ref (ad 0)), (8, .int x8)]) (h : f_X11_clause_283 x8 σ = some R) : W p l e r_X11_clause s m args below meth c H locs 0 0 Q (F0 m 283 ls []) := by
  have hx := C.1.1
  have hb := C.1.2.1
  unfold f_X11_clause_283 at h
  refine lv_aload_n hx hb dX11_clause_283 rfl (lv_at hl 0 rfl) ?_
  refine lv_iconst (v := 1) hx hb dX11_clause_284 (by decide) ?_
  refine lv_iload hx hb dX11_clause_285 (lv_at hl 1 rfl) ?_
  obtain ⟨u101, hu101, h⟩ := ob h
  refine g_callVi eM_ok C Z (k_X11_fails hu101) lk_X11_337 (by decide) rfl rfl hl (by decide) rfl (Nat.le_of_ble_eq_true rfl) (rest := []) rfl dX11_clause_287 (fun H locs Z => ?_)
  obtain rfl := Option.some.inj h
  exact hR _ _ _ _ _ Z dX11_clause_290 (nar_b _)
set_option maxRecDepth 20000 in
theorem w_X11_clause_163 {p : Program} {l : Launch} {e : Env} {s : State} {m : MethodId} {args : Array Value} {below : List Frame} {meth : Method} {c : Code} {Q : State → Prop} {D : va_G} {kc : Nat → ClassId} {ad : Nat → Nat} {A : Nat → Prop} (C : Cx eM p s m args c cX11_clause 9 RX11 D kc A) {R : Int32 × St} {x1 : Int32} {x3 : Int32} {x4 : Int32} {x5 : Int32} {x6 : Int32} {x7 : Int32} {y1 : Int32} {y2 : Int32} {σ : St} (hR : RTi 0 0 p l e r_X11_clause s m args below meth c cX11_clause tM kc ad D A Q .boolean R.1 R.2) {H : Heap} {locs : List Loc} {ls : Array Slot} (Z : Dy tM kc ad D A s.heap σ H locs) (hl : lv_has ls 9 [(0, .ref (ad 0)), (1, .int x1), (3, .int x3), (4, .int x4), (5, .int x5), (6, .int x6), (7, .int x7)]) (h : f_X11_clause_163 x1 x3 x4 x5 x6 x7 y1 y2 σ = some R) : W p l e r_X11_clause s m args below meth c H locs 0 0 Q (F0 m 163 ls [.int y2, .int y1, .ref (ad 22)]) := by
  have hx := C.1.1
  have hb := C.1.2.1
  unfold f_X11_clause_163 at h
  obtain ⟨σ89, hσ89, h⟩ := ob h
  refine g_iast C Z iaM22 hσ89 dX11_clause_163 (fun H locs Z => ?_)
  refine lv_aload_n hx hb dX11_clause_164 rfl (lv_at hl 0 rfl) ?_
  refine rg_X11_77 C Z dX11_clause_165 ?_
  refine lv_iload hx hb dX11_clause_168 (lv_at hl 6 rfl) ?_
  refine lv_iload hx hb dX11_clause_170 (lv_at hl 4 rfl) ?_
  obtain ⟨v90, ev90, h⟩ := lb h
  have hj : W p l e r_X11_clause s m args below meth c H locs 0 0 Q (F0 m 180 ls [.int v90, .int x7, .ref (ad 23)]) := by
    obtain ⟨σ91, hσ91, h⟩ := ob h
    refine g_iast C Z iaM23 hσ91 dX11_clause_180 (fun H locs Z => ?_)
    refine lv_aload_n hx hb dX11_clause_181 rfl (lv_at hl 0 rfl) ?_
    refine rg_X11_89 C Z dX11_clause_182 ?_
    refine lv_iload hx hb dX11_clause_185 (lv_at hl 6 rfl) ?_
    refine lv_iconst (v := 0) hx hb dX11_clause_187 (by decide) ?_
    obtain ⟨σ92, hσ92, h⟩ := ob h
    refine g_iast C Z iaM27 hσ92 dX11_clause_188 (fun H locs Z => ?_)
    refine lv_aload_n hx hb dX11_clause_189 rfl (lv_at hl 0 rfl) ?_
    refine rg_X11_80 C Z dX11_clause_190 ?_
    refine lv_iload hx hb dX11_clause_193 (lv_at hl 6 rfl) ?_
    refine lv_aload_n hx hb dX11_clause_195 rfl (lv_at hl 0 rfl) ?_
    refine rg_X11_353 C Z dX11_clause_196 ?_
    obtain ⟨σ93, hσ93, h⟩ := ob h
    refine g_iast C Z iaM24 hσ93 dX11_clause_199 (fun H locs Z => ?_)
    refine lv_iload_n hx hb dX11_clause_200 rfl (lv_at hl 2 rfl) ?_
    refine lv_if_ne (tgt := 209) hx hb dX11_clause_201 (by decide) (fun c201 => ?_) (fun c201 => ?_)
    · have h := im h c201
      exact w_X11_clause_209 C hR Z (lv_sub hl [0, 6] rfl) h
    · have h := ip h c201
      refine lv_iload hx hb dX11_clause_204 (lv_at hl 3 rfl) ?_
      refine lv_if_eq (tgt := 218) hx hb dX11_clause_206 (by decide) (fun c206 => ?_) (fun c206 => ?_)
      · have h := ip h c206
        refine lv_iload hx hb dX11_clause_218 (lv_at hl 4 rfl) ?_
        refine lv_if_ne (tgt := 228) hx hb dX11_clause_220 (by decide) (fun c220 => ?_) (fun c220 => ?_)
        · have h := im h c220
          exact w_X11_clause_228 C hR Z (lv_sub hl [0, 6] rfl) h
        · have h := ip h c220
          refine lv_iload hx hb dX11_clause_223 (lv_at hl 5 rfl) ?_
          refine lv_if_eq (tgt := 239) hx hb dX11_clause_225 (by decide) (fun c225 => ?_) (fun c225 => ?_)
          · have h := ip h c225
            refine lv_aload_n hx hb dX11_clause_239 rfl (lv_at hl 0 rfl) ?_
            obtain ⟨u94, hu94, h⟩ := ob h
            refine g_callVi eM_ok C Z (k_X11_see hu94) lk_X11_329 (by decide) rfl rfl hl (by decide) rfl (Nat.le_of_ble_eq_true rfl) (rest := []) rfl dX11_clause_240 (fun H locs Z => ?_)
            refine lv_pop hx hb dX11_clause_243 rfl ?_
            refine lv_aload_n hx hb dX11_clause_244 rfl (lv_at hl 0 rfl) ?_
            refine rg_X11_326 C Z dX11_clause_245 ?_
            obtain ⟨v95, ev95, h⟩ := lb h
            refine tn_i ev95 ?_
            refine lv_istore (lv' := [(8, .int v95), (0, .ref (ad 0)), (1, .int x1), (3, .int x3), (4, .int x4), (5, .int x5), (6, .int x6), (7, .int x7)]) hx hb dX11_clause_248 hl (by decide) rfl (fun ls hl => ?_)
            refine lv_aload_n hx hb dX11_clause_250 rfl (lv_at hl 1 rfl) ?_
            obtain ⟨u96, hu96, h⟩ := ob h
            refine g_callVi eM_ok C Z (k_X11_number hu96) lk_X11_369 (by decide) rfl rfl hl (by decide) rfl (Nat.le_of_ble_eq_true rfl) (rest := []) rfl dX11_clause_251 (fun H locs Z => ?_)
            refine lv_if_ne (tgt := 259) hx hb dX11_clause_254 (by decide) (fun c254 => ?_) (fun c254 => ?_)
            · have h := im h c254
              refine lv_aload_n hx hb dX11_clause_259 rfl (lv_at hl 1 rfl) ?_
              refine rg_X11_340 C Z dX11_clause_260 ?_
              refine lv_aload_n hx hb dX11_clause_263 rfl (lv_at hl 1 rfl) ?_
              refine rg_X11_350 C Z dX11_clause_264 ?_
              refine lv_icmp_ge (tgt := 283) hx hb dX11_clause_267 (by decide) (fun c267 => ?_) (fun c267 => ?_)
              · have h := ip h c267
                exact w_X11_clause_283 C hR Z (lv_sub hl [1, 0] rfl) h
              · have h := im h c267
                refine lv_aload_n hx hb dX11_clause_270 rfl (lv_at hl 1 rfl) ?_
                refine rg_X11_65 C Z dX11_clause_271 ?_
                refine lv_aload_n hx hb dX11_clause_274 rfl (lv_at hl 1 rfl) ?_
                refine rg_X11_340 C Z dX11_clause_275 ?_
                obtain ⟨v97, hv97, h⟩ := ob h
                refine g_iald C Z iaM19 hv97 dX11_clause_278 ?_
                refine lv_iload_n hx hb dX11_clause_279 rfl (lv_at hl 2 rfl) ?_
                refine lv_icmp_eq (tgt := 291) hx hb dX11_clause_280 (by decide) (fun c280 => ?_) (fun c280 => ?_)
                · have h := ip h c280
                  refine lv_aload_n hx hb dX11_clause_291 rfl (lv_at hl 1 rfl) ?_
                  refine rg_X11_77 C Z dX11_clause_292 ?_
                  refine lv_iload hx hb dX11_clause_295 (lv_at hl 7 rfl) ?_
                  refine lv_aload_n hx hb dX11_clause_297 rfl (lv_at hl 1 rfl) ?_
                  refine rg_X11_340 C Z dX11_clause_298 ?_
                  obtain ⟨σ98, hσ98, h⟩ := ob h
                  refine g_iast C Z iaM23 hσ98 dX11_clause_301 (fun H locs Z => ?_)
                  exact w_X11_clause_302 C hR Z (lv_sub hl [1, 7] rfl) h
                · have h := im h c280
                  exact w_X11_clause_283 C hR Z (lv_sub hl [1, 0] rfl) h
            · have h := ip h c254
              refine lv_iconst (v := 0) hx hb dX11_clause_257 (by decide) ?_
              obtain rfl := Option.some.inj h
              exact hR _ _ _ _ _ Z dX11_clause_258 rfl
          · have h := im h c225
            exact w_X11_clause_228 C hR Z (lv_sub hl [0, 6] rfl) h
      · have h := im h c206
        exact w_X11_clause_209 C hR Z (lv_sub hl [0, 6] rfl) h
  refine lv_if_eq (tgt := 179) hx hb dX11_clause_172 (by decide) (fun c172 => ?_) (fun c172 => ?_)
  · rw [if_pos c172] at ev90
    refine lv_iconst (v := 0) hx hb dX11_clause_179 (by decide) ?_
    exact tn_i ev90 hj
  · rw [if_neg c172] at ev90
    refine lv_iconst (v := 1) hx hb dX11_clause_175 (by decide) ?_
    refine lv_goto (tgt := 180) hx hb dX11_clause_176 (by decide) ?_
    exact tn_i ev90 hj
set_option maxRecDepth 20000 in
theorem w_X11_clause_81 {p : Program} {l : Launch} {e : Env} {s : State} {m : MethodId} {args : Array Value} {below : List Frame} {meth : Method} {c : Code} {Q : State → Prop} {D : va_G} {kc : Nat → ClassId} {ad : Nat → Nat} {A : Nat → Prop} (C : Cx eM p s m args c cX11_clause 9 RX11 D kc A) {R : Int32 × St} {x1 : Int32} {x2 : Int32} {x3 : Int32} {x4 : Int32} {x5 : Int32} {x6 : Int32} {σ : St} (hR : RTi 0 0 p l e r_X11_clause s m args below meth c cX11_clause tM kc ad D A Q .boolean R.1 R.2) {H : Heap} {locs : List Loc} {ls : Array Slot} (Z : Dy tM kc ad D A s.heap σ H locs) (hl : lv_has ls 9 [(0, .ref (ad 0)), (1, .int x1), (2, .int x2), (3, .int x3), (4, .int x4), (5, .int x5), (6, .int x6)]) (h : f_X11_clause_81 x1 x2 x3 x4 x5 x6 σ = some R) : W p l e r_X11_clause s m args below meth c H locs 0 0 Q (F0 m 81 ls []) := by
  have hx := C.1.1
  have hb := C.1.2.1
  unfold f_X11_clause_81 at h
  refine lv_aload_n hx hb dX11_clause_81 rfl (lv_at hl 0 rfl) ?_
  refine rg_X11_71 C Z dX11_clause_82 ?_
  refine lv_aload_n hx hb dX11_clause_85 rfl (lv_at hl 0 rfl) ?_
  refine rg_X11_350 C Z dX11_clause_86 ?_
  obtain ⟨v81, hv81, h⟩ := ob h
  refine g_iald C Z iaM21 hv81 dX11_clause_89 ?_
  refine lv_bipush (v := 12) hx hb dX11_clause_90 (by decide) ?_
  refine lv_icmp_ne (tgt := 102) hx hb dX11_clause_92 (by decide) (fun c92 => ?_) (fun c92 => ?_)
  · have h := im h c92
    refine lv_bipush (v := 12) hx hb dX11_clause_102 (by decide) ?_
    refine lv_aload_n hx hb dX11_clause_104 rfl (lv_at hl 0 rfl) ?_
    refine rg_X11_350 C Z dX11_clause_105 ?_
    refine lv_imul hx hb dX11_clause_108 ?_
    refine lv_aload_n hx hb dX11_clause_109 rfl (lv_at hl 0 rfl) ?_
    refine rg_X11_71 C Z dX11_clause_110 ?_
    refine lv_aload_n hx hb dX11_clause_113 rfl (lv_at hl 0 rfl) ?_
    refine rg_X11_350 C Z dX11_clause_114 ?_
    obtain ⟨v82, hv82, h⟩ := ob h
    refine g_iald C Z iaM21 hv82 dX11_clause_117 ?_
    refine lv_iadd hx hb dX11_clause_118 ?_
    obtain ⟨v83, ev83, h⟩ := lb h
    refine tn_i ev83 ?_
    refine lv_istore (lv' := [(7, .int v83), (0, .ref (ad 0)), (1, .int x1), (2, .int x2), (3, .int x3), (4, .int x4), (5, .int x5), (6, .int x6)]) hx hb dX11_clause_119 hl (by decide) rfl (fun ls hl => ?_)
    refine lv_aload_n hx hb dX11_clause_121 rfl (lv_at hl 1 rfl) ?_
    refine rg_X11_71 C Z dX11_clause_122 ?_
    refine lv_aload_n hx hb dX11_clause_125 rfl (lv_at hl 1 rfl) ?_
    refine rg_X11_350 C Z dX11_clause_126 ?_
    obtain ⟨v84, ev84, h⟩ := lb h
    refine tn_i ev84 ?_
    refine lv_dup2_11 hx hb dX11_clause_129 rfl rfl ?_
    obtain ⟨v85, hv85, h⟩ := ob h
    refine g_iald C Z iaM21 hv85 dX11_clause_130 ?_
    refine lv_iconst (v := 1) hx hb dX11_clause_131 (by decide) ?_
    refine lv_iadd hx hb dX11_clause_132 ?_
    obtain ⟨σ86, hσ86, h⟩ := ob h
    refine g_iast C Z iaM21 hσ86 dX11_clause_133 (fun H locs Z => ?_)
    refine lv_aload_n hx hb dX11_clause_134 rfl (lv_at hl 1 rfl) ?_
    obtain ⟨σ87, hσ87, h⟩ := ob h
    refine g_callVv eM_ok C Z (k_X11_skips hσ87) lk_X11_347 (by decide) rfl rfl hl (by decide) rfl (Nat.le_of_ble_eq_true rfl) (rest := []) rfl dX11_clause_135 (fun H locs Z => ?_)
    refine lv_aload_n hx hb dX11_clause_138 rfl (lv_at hl 1 rfl) ?_
    refine rg_X11_74 C Z dX11_clause_139 ?_
    refine lv_iload hx hb dX11_clause_142 (lv_at hl 0 rfl) ?_
    refine lv_iload_n hx hb dX11_clause_144 rfl (lv_at hl 4 rfl) ?_
    refine lv_if_eq (tgt := 152) hx hb dX11_clause_145 (by decide) (fun c145 => ?_) (fun c145 => ?_)
    · have h := ip h c145
      refine lv_iload hx hb dX11_clause_152 (lv_at hl 5 rfl) ?_
      refine lv_if_eq (tgt := 161) hx hb dX11_clause_154 (by decide) (fun c154 => ?_) (fun c154 => ?_)
      · have h := ip h c154
        refine lv_bipush (v := 7) hx hb dX11_clause_161 (by decide) ?_
        exact w_X11_clause_163 C hR Z (lv_sub hl [1, 2, 4, 5, 6, 7, 0] rfl) h
      · have h := im h c154
        refine lv_iconst (v := 1) hx hb dX11_clause_157 (by decide) ?_
        refine lv_goto (tgt := 163) hx hb dX11_clause_158 (by decide) ?_
        exact w_X11_clause_163 C hR Z (lv_sub hl [1, 2, 4, 5, 6, 7, 0] rfl) h
    · have h := im h c145
      refine lv_iconst (v := 0) hx hb dX11_clause_148 (by decide) ?_
      refine lv_goto (tgt := 163) hx hb dX11_clause_149 (by decide) ?_
      exact w_X11_clause_163 C hR Z (lv_sub hl [1, 2, 4, 5, 6, 7, 0] rfl) h
  · have h := ip h c92
    refine lv_aload_n hx hb dX11_clause_95 rfl (lv_at hl 0 rfl) ?_
    refine lv_iconst (v := 4) hx hb dX11_clause_96 (by decide) ?_
    refine lv_iload_n hx hb dX11_clause_97 rfl (lv_at hl 2 rfl) ?_
    obtain ⟨u88, hu88, h⟩ := ob h
    refine g_callVi eM_ok C Z (k_X11_fails hu88) lk_X11_337 (by decide) rfl rfl hl (by decide) rfl (Nat.le_of_ble_eq_true rfl) (rest := []) rfl dX11_clause_98 (fun H locs Z => ?_)
    obtain rfl := Option.some.inj h
    exact hR _ _ _ _ _ Z dX11_clause_101 (nar_b _)
set_option maxRecDepth 20000 in
theorem w_X11_clause_0 {p : Program} {l : Launch} {e : Env} {s : State} {m : MethodId} {args : Array Value} {below : List Frame} {meth : Method} {c : Code} {Q : State → Prop} {D : va_G} {kc : Nat → ClassId} {ad : Nat → Nat} {A : Nat → Prop} (C : Cx eM p s m args c cX11_clause 9 RX11 D kc A) {R : Int32 × St} {x1 : Int32} {σ : St} (hR : RTi 0 0 p l e r_X11_clause s m args below meth c cX11_clause tM kc ad D A Q .boolean R.1 R.2) {H : Heap} {locs : List Loc} {ls : Array Slot} (Z : Dy tM kc ad D A s.heap σ H locs) (hl : lv_has ls 9 [(0, .ref (ad 0)), (1, .int x1)]) (h : f_X11_clause x1 σ = some R) : W p l e r_X11_clause s m args below meth c H locs 0 0 Q (F0 m 0 ls []) := by
  have hx := C.1.1
  have hb := C.1.2.1
  unfold f_X11_clause at h
  refine lv_aload_n hx hb dX11_clause_0 rfl (lv_at hl 0 rfl) ?_
  obtain ⟨u73, hu73, h⟩ := ob h
  refine g_callVi eM_ok C Z (k_X11_see hu73) lk_X11_329 (by decide) rfl rfl hl (by decide) rfl (Nat.le_of_ble_eq_true rfl) (rest := []) rfl dX11_clause_1 (fun H locs Z => ?_)
  refine lv_pop hx hb dX11_clause_4 rfl ?_
  refine lv_aload_n hx hb dX11_clause_5 rfl (lv_at hl 0 rfl) ?_
  refine rg_X11_326 C Z dX11_clause_6 ?_
  obtain ⟨v74, ev74, h⟩ := lb h
  refine tn_i ev74 ?_
  refine lv_istore_n (lv' := [(2, .int v74), (0, .ref (ad 0)), (1, .int x1)]) hx hb dX11_clause_9 rfl hl (by decide) rfl (fun ls hl => ?_)
  refine lv_aload_n hx hb dX11_clause_10 rfl (lv_at hl 1 rfl) ?_
  refine lv_ldc2 (v := 491327153000) hx hb C.1.2.2.2.1 (C.1.2.2.2.2 _ wDL_X11_413) dX11_clause_11 ?_
  obtain ⟨u75, hu75, h⟩ := ob h
  refine g_callVi eM_ok C Z (k_X11_isWord hu75) lk_X11_343 (by decide) rfl rfl hl (by decide) rfl (Nat.le_of_ble_eq_true rfl) (rest := []) rfl dX11_clause_14 (fun H locs Z => ?_)
  refine lv_istore_n (lv' := [(3, .int u75.1), (2, .int v74), (0, .ref (ad 0)), (1, .int x1)]) hx hb dX11_clause_17 rfl hl (by decide) rfl (fun ls hl => ?_)
  refine lv_aload_n hx hb dX11_clause_18 rfl (lv_at hl 2 rfl) ?_
  refine lv_ldc2 (v := 1835365224) hx hb C.1.2.2.2.1 (C.1.2.2.2.2 _ wDL_X11_415) dX11_clause_19 ?_
  obtain ⟨u76, hu76, h⟩ := ob h
  refine g_callVi eM_ok C Z (k_X11_isWord hu76) lk_X11_343 (by decide) rfl rfl hl (by decide) rfl (Nat.le_of_ble_eq_true rfl) (rest := []) rfl dX11_clause_22 (fun H locs Z => ?_)
  refine lv_istore (lv' := [(4, .int u76.1), (3, .int u75.1), (2, .int v74), (0, .ref (ad 0)), (1, .int x1)]) hx hb dX11_clause_25 hl (by decide) rfl (fun ls hl => ?_)
  refine lv_aload_n hx hb dX11_clause_27 rfl (lv_at hl 3 rfl) ?_
  refine lv_ldc2 (v := 7168377) hx hb C.1.2.2.2.1 (C.1.2.2.2.2 _ wDL_X11_417) dX11_clause_28 ?_
  obtain ⟨u77, hu77, h⟩ := ob h
  refine g_callVi eM_ok C Z (k_X11_isWord hu77) lk_X11_343 (by decide) rfl rfl hl (by decide) rfl (Nat.le_of_ble_eq_true rfl) (rest := []) rfl dX11_clause_31 (fun H locs Z => ?_)
  refine lv_istore (lv' := [(5, .int u77.1), (4, .int u76.1), (3, .int u75.1), (2, .int v74), (0, .ref (ad 0)), (1, .int x1)]) hx hb dX11_clause_34 hl (by decide) rfl (fun ls hl => ?_)
  refine lv_aload_n hx hb dX11_clause_36 rfl (lv_at hl 4 rfl) ?_
  refine lv_ldc2 (v := 7237492) hx hb C.1.2.2.2.1 (C.1.2.2.2.2 _ wDL_X11_419) dX11_clause_37 ?_
  obtain ⟨u78, hu78, h⟩ := ob h
  refine g_callVi eM_ok C Z (k_X11_isWord hu78) lk_X11_343 (by decide) rfl rfl hl (by decide) rfl (Nat.le_of_ble_eq_true rfl) (rest := []) rfl dX11_clause_40 (fun H locs Z => ?_)
  refine lv_istore (lv' := [(6, .int u78.1), (5, .int u77.1), (4, .int u76.1), (3, .int u75.1), (2, .int v74), (0, .ref (ad 0)), (1, .int x1)]) hx hb dX11_clause_43 hl (by decide) rfl (fun ls hl => ?_)
  refine lv_iload_n hx hb dX11_clause_45 rfl (lv_at hl 3 rfl) ?_
  refine lv_if_ne (tgt := 81) hx hb dX11_clause_46 (by decide) (fun c46 => ?_) (fun c46 => ?_)
  · have h := im h c46
    exact w_X11_clause_81 C hR Z (lv_sub hl [5, 6, 4, 3, 2, 1, 0] rfl) h
  · have h := ip h c46
    refine lv_iload hx hb dX11_clause_49 (lv_at hl 2 rfl) ?_
    refine lv_if_ne (tgt := 81) hx hb dX11_clause_51 (by decide) (fun c51 => ?_) (fun c51 => ?_)
    · have h := im h c51
      exact w_X11_clause_81 C hR Z (lv_sub hl [5, 6, 4, 3, 2, 1, 0] rfl) h
    · have h := ip h c51
      refine lv_iload hx hb dX11_clause_54 (lv_at hl 1 rfl) ?_
      refine lv_if_ne (tgt := 81) hx hb dX11_clause_56 (by decide) (fun c56 => ?_) (fun c56 => ?_)
      · have h := im h c56
        exact w_X11_clause_81 C hR Z (lv_sub hl [5, 6, 4, 3, 2, 1, 0] rfl) h
      · have h := ip h c56
        refine lv_iload hx hb dX11_clause_59 (lv_at hl 0 rfl) ?_
        refine lv_if_ne (tgt := 81) hx hb dX11_clause_61 (by decide) (fun c61 => ?_) (fun c61 => ?_)
        · have h := im h c61
          exact w_X11_clause_81 C hR Z (lv_sub hl [5, 6, 4, 3, 2, 1, 0] rfl) h
        · have h := ip h c61
          refine lv_aload_n hx hb dX11_clause_64 rfl (lv_at hl 5 rfl) ?_
          refine lv_ldc2 (v := 126943972911973) hx hb C.1.2.2.2.1 (C.1.2.2.2.2 _ wDL_X11_421) dX11_clause_65 ?_
          obtain ⟨u79, hu79, h⟩ := ob h
          refine g_callVi eM_ok C Z (k_X11_isWord hu79) lk_X11_343 (by decide) rfl rfl hl (by decide) rfl (Nat.le_of_ble_eq_true rfl) (rest := []) rfl dX11_clause_68 (fun H locs Z => ?_)
          refine lv_if_ne (tgt := 81) hx hb dX11_clause_71 (by decide) (fun c71 => ?_) (fun c71 => ?_)
          · have h := im h c71
            exact w_X11_clause_81 C hR Z (lv_sub hl [5, 6, 4, 3, 2, 1, 0] rfl) h
          · have h := ip h c71
            refine lv_aload_n hx hb dX11_clause_74 rfl (lv_at hl 5 rfl) ?_
            refine lv_iconst (v := 0) hx hb dX11_clause_75 (by decide) ?_
            refine lv_iload_n hx hb dX11_clause_76 rfl (lv_at hl 4 rfl) ?_
            obtain ⟨u80, hu80, h⟩ := ob h
            refine g_callVi eM_ok C Z (k_X11_fails hu80) lk_X11_337 (by decide) rfl rfl hl (by decide) rfl (Nat.le_of_ble_eq_true rfl) (rest := []) rfl dX11_clause_77 (fun H locs Z => ?_)
            obtain rfl := Option.some.inj h
            exact hR _ _ _ _ _ Z dX11_clause_80 (nar_b _)
theorem k_X11_clause {l : Launch} {kc : Nat → ClassId} {ad : Nat → Nat} {D : va_G} {x1 : Int32} {σ : St} {R : Int32 × St} (h : f_X11_clause x1 σ = some R) : KC eM tM kc ad D l yX11_clause (.code yX11_clause cX11_clause 9 (some .boolean)) r_X11_clause [.ref (ad 0), .int x1] (some (.int R.1)) σ R.2 := by
  refine g_enter (by decide) (Nat.le_of_ble_eq_true rfl) ?_
  intro p e s m args below meth c A hA C hr hlocks Z ls hl
  have hl : lv_has ls 9 [(0, .ref (ad 0)), (1, .int x1)] := hl
  exact w_X11_clause_0 C (g_RTi C.1.1 C.1.2.1 hr hlocks hA)  Z hl h
def r_X11_text : Room := { frames := 7, cells := 0, slots := 0, locals := 167 }
set_option maxRecDepth 20000 in
theorem w_X11_text_68 {p : Program} {l : Launch} {e : Env} {s : State} {m : MethodId} {args : Array Value} {below : List Frame} {meth : Method} {c : Code} {Q : State → Prop} {D : va_G} {kc : Nat → ClassId} {ad : Nat → Nat} {A : Nat → Prop} (C : Cx eM p s m args c cX11_text 3 RX11 D kc A) {R : Int32 × St} {σ : St} (hR : RTi 0 0 p l e r_X11_text s m args below meth c cX11_text tM kc ad D A Q .boolean R.1 R.2) {H : Heap} {locs : List Loc} {ls : Array Slot} (Z : Dy tM kc ad D A s.heap σ H locs) (hl : lv_has ls 3 []) (h : f_X11_text_68 σ = some R) : W p l e r_X11_text s m args below meth c H locs 0 0 Q (F0 m 68 ls []) := by
  have hx := C.1.1
  have hb := C.1.2.1
  unfold f_X11_text_68 at h
  refine lv_iconst (v := 1) hx hb dX11_text_68 (by decide) ?_
  refine lv_goto (tgt := 73) hx hb dX11_text_69 (by decide) ?_
  obtain rfl := Option.some.inj h
  exact hR _ _ _ _ _ Z dX11_text_73 rfl
set_option maxRecDepth 20000 in
theorem w_X11_text_48 {p : Program} {l : Launch} {e : Env} {s : State} {m : MethodId} {args : Array Value} {below : List Frame} {meth : Method} {c : Code} {Q : State → Prop} {D : va_G} {kc : Nat → ClassId} {ad : Nat → Nat} {A : Nat → Prop} (C : Cx eM p s m args c cX11_text 3 RX11 D kc A) {R : Int32 × St} {σ : St} (hR : RTi 0 0 p l e r_X11_text s m args below meth c cX11_text tM kc ad D A Q .boolean R.1 R.2) {H : Heap} {locs : List Loc} {ls : Array Slot} (Z : Dy tM kc ad D A s.heap σ H locs) (hl : lv_has ls 3 [(0, .ref (ad 0))]) (h : f_X11_text_48 σ = some R) : W p l e r_X11_text s m args below meth c H locs 0 0 Q (F0 m 48 ls []) := by
  have hx := C.1.1
  have hb := C.1.2.1
  unfold f_X11_text_48 at h
  refine lv_aload_n hx hb dX11_text_48 rfl (lv_at hl 0 rfl) ?_
  obtain ⟨u15, hu15, h⟩ := ob h
  refine g_callVi eM_ok C Z (k_X11_see hu15) lk_X11_329 (by decide) rfl rfl hl (by decide) rfl (Nat.le_of_ble_eq_true rfl) (rest := []) rfl dX11_text_49 (fun H locs Z => ?_)
  refine lv_iconst (v := (-1)) hx hb dX11_text_52 (by decide) ?_
  refine lv_icmp_eq (tgt := 68) hx hb dX11_text_53 (by decide) (fun c53 => ?_) (fun c53 => ?_)
  · have h := ip h c53
    exact w_X11_text_68 C hR Z (lv_sub hl [] rfl) h
  · have h := im h c53
    refine lv_aload_n hx hb dX11_text_56 rfl (lv_at hl 0 rfl) ?_
    refine lv_iconst (v := 0) hx hb dX11_text_57 (by decide) ?_
    refine lv_aload_n hx hb dX11_text_58 rfl (lv_at hl 0 rfl) ?_
    refine rg_X11_326 C Z dX11_text_59 ?_
    obtain ⟨u16, hu16, h⟩ := ob h
    refine g_callVi eM_ok C Z (k_X11_fails hu16) lk_X11_337 (by decide) rfl rfl hl (by decide) rfl (Nat.le_of_ble_eq_true rfl) (rest := []) rfl dX11_text_62 (fun H locs Z => ?_)
    refine lv_if_eq (tgt := 72) hx hb dX11_text_65 (by decide) (fun c65 => ?_) (fun c65 => ?_)
    · have h := ip h c65
      refine lv_iconst (v := 0) hx hb dX11_text_72 (by decide) ?_
      obtain rfl := Option.some.inj h
      exact hR _ _ _ _ _ Z dX11_text_73 rfl
    · have h := im h c65
      exact w_X11_text_68 C hR Z (lv_sub hl [] rfl) h
set_option maxRecDepth 20000 in
theorem w_X11_text_2 {p : Program} {l : Launch} {e : Env} {s : State} {m : MethodId} {args : Array Value} {below : List Frame} {meth : Method} {c : Code} {Q : State → Prop} {D : va_G} {kc : Nat → ClassId} {ad : Nat → Nat} {A : Nat → Prop} (C : Cx eM p s m args c cX11_text 3 RX11 D kc A) {R : Int32 × St} {x1 : Int32} (hR : RTi 0 0 p l e r_X11_text s m args below meth c cX11_text tM kc ad D A Q .boolean R.1 R.2) : ∀ (n : Nat) (x2 : Int32) (σ : St) (H : Heap) (locs : List Loc) (ls : Array Slot), Dy tM kc ad D A s.heap σ H locs → lv_has ls 3 [(0, .ref (ad 0)), (1, .int x1), (2, .int x2)] → f_X11_text_2 x1 n x2 σ = some R → W p l e r_X11_text s m args below meth c H locs 0 0 Q (F0 m 2 ls []) := by
  have hx := C.1.1
  have hb := C.1.2.1
  intro n
  induction n with
  | zero =>
    intro x2 σ H locs ls Z hl h
    exact absurd (show none = some R from h) (by simp)
  | succ n ih =>
    intro x2 σ H locs ls Z hl h
    rw [f_X11_text_2] at h
    refine lv_iload_n hx hb dX11_text_2 rfl (lv_at hl 2 rfl) ?_
    refine lv_if_eq (tgt := 48) hx hb dX11_text_3 (by decide) (fun c3 => ?_) (fun c3 => ?_)
    · have h := ip h c3
      exact w_X11_text_48 C hR Z (lv_sub hl [0] rfl) h
    · have h := im h c3
      refine lv_aload_n hx hb dX11_text_6 rfl (lv_at hl 0 rfl) ?_
      refine lv_iload_n hx hb dX11_text_7 rfl (lv_at hl 1 rfl) ?_
      obtain ⟨u11, hu11, h⟩ := ob h
      refine g_callVi eM_ok C Z (k_X11_clause hu11) lk_X11_433 (by decide) rfl rfl hl (by decide) rfl (Nat.le_of_ble_eq_true rfl) (rest := []) rfl dX11_text_8 (fun H locs Z => ?_)
      refine lv_if_ne (tgt := 16) hx hb dX11_text_11 (by decide) (fun c11 => ?_) (fun c11 => ?_)
      · have h := im h c11
        refine lv_aload_n hx hb dX11_text_16 rfl (lv_at hl 0 rfl) ?_
        obtain ⟨u12, hu12, h⟩ := ob h
        refine g_callVi eM_ok C Z (k_X11_see hu12) lk_X11_329 (by decide) rfl rfl hl (by decide) rfl (Nat.le_of_ble_eq_true rfl) (rest := []) rfl dX11_text_17 (fun H locs Z => ?_)
        refine lv_bipush (v := 59) hx hb dX11_text_20 (by decide) ?_
        obtain ⟨v13, ev13, h⟩ := lb h
        have hj : W p l e r_X11_text s m args below meth c H locs 0 0 Q (F0 m 30 ls [.int v13]) := by
          refine lv_istore_n (lv' := [(2, .int v13), (0, .ref (ad 0)), (1, .int x1)]) hx hb dX11_text_30 rfl hl (by decide) rfl (fun ls hl => ?_)
          refine lv_iload_n hx hb dX11_text_31 rfl (lv_at hl 0 rfl) ?_
          refine lv_if_eq (tgt := 2) hx hb dX11_text_32 (by decide) (fun c32 => ?_) (fun c32 => ?_)
          · have h := ip h c32
            exact ih _ _ _ _ _ Z (lv_sub hl [1, 2, 0] rfl) h
          · have h := im h c32
            refine lv_aload_n hx hb dX11_text_35 rfl (lv_at hl 1 rfl) ?_
            refine lv_dup hx hb dX11_text_36 rfl ?_
            refine rg_X11_326 C Z dX11_text_37 ?_
            refine lv_iconst (v := 1) hx hb dX11_text_40 (by decide) ?_
            refine lv_iadd hx hb dX11_text_41 ?_
            obtain ⟨σ14, eσ14, h⟩ := lb h
            refine rp_X11_326 C Z eσ14 dX11_text_42 (fun H locs Z => ?_)
            refine lv_goto (tgt := 2) hx hb dX11_text_45 (by decide) ?_
            exact ih _ _ _ _ _ Z (lv_sub hl [1, 2, 0] rfl) h
        refine lv_icmp_ne (tgt := 29) hx hb dX11_text_22 (by decide) (fun c22 => ?_) (fun c22 => ?_)
        · rw [if_neg c22] at ev13
          refine lv_iconst (v := 0) hx hb dX11_text_29 (by decide) ?_
          exact tn_i ev13 hj
        · rw [if_pos c22] at ev13
          refine lv_iconst (v := 1) hx hb dX11_text_25 (by decide) ?_
          refine lv_goto (tgt := 30) hx hb dX11_text_26 (by decide) ?_
          exact tn_i ev13 hj
      · have h := ip h c11
        refine lv_iconst (v := 0) hx hb dX11_text_14 (by decide) ?_
        obtain rfl := Option.some.inj h
        exact hR _ _ _ _ _ Z dX11_text_15 rfl
set_option maxRecDepth 20000 in
theorem w_X11_text_0 {p : Program} {l : Launch} {e : Env} {s : State} {m : MethodId} {args : Array Value} {below : List Frame} {meth : Method} {c : Code} {Q : State → Prop} {D : va_G} {kc : Nat → ClassId} {ad : Nat → Nat} {A : Nat → Prop} (C : Cx eM p s m args c cX11_text 3 RX11 D kc A) {R : Int32 × St} {x1 : Int32} {σ : St} (hR : RTi 0 0 p l e r_X11_text s m args below meth c cX11_text tM kc ad D A Q .boolean R.1 R.2) {H : Heap} {locs : List Loc} {ls : Array Slot} (Z : Dy tM kc ad D A s.heap σ H locs) (hl : lv_has ls 3 [(0, .ref (ad 0)), (1, .int x1)]) (h : f_X11_text x1 σ = some R) : W p l e r_X11_text s m args below meth c H locs 0 0 Q (F0 m 0 ls []) := by
  have hx := C.1.1
  have hb := C.1.2.1
  unfold f_X11_text at h
  refine lv_iconst (v := 1) hx hb dX11_text_0 (by decide) ?_
  refine lv_istore_n (lv' := [(2, .int 1), (0, .ref (ad 0)), (1, .int x1)]) hx hb dX11_text_1 rfl hl (by decide) rfl (fun ls hl => ?_)
  exact w_X11_text_2 C hR _ _ _ _ _ _ Z (lv_sub hl [1, 2, 0] rfl) h
theorem k_X11_text {l : Launch} {kc : Nat → ClassId} {ad : Nat → Nat} {D : va_G} {x1 : Int32} {σ : St} {R : Int32 × St} (h : f_X11_text x1 σ = some R) : KC eM tM kc ad D l yX11_text (.code yX11_text cX11_text 3 (some .boolean)) r_X11_text [.ref (ad 0), .int x1] (some (.int R.1)) σ R.2 := by
  refine g_enter (by decide) (Nat.le_of_ble_eq_true rfl) ?_
  intro p e s m args below meth c A hA C hr hlocks Z ls hl
  have hl : lv_has ls 3 [(0, .ref (ad 0)), (1, .int x1)] := hl
  exact w_X11_text_0 C (g_RTi C.1.1 C.1.2.1 hr hlocks hA)  Z hl h
def r_X11_statute : Room := { frames := 8, cells := 0, slots := 0, locals := 189 }
set_option maxRecDepth 20000 in
theorem w_X11_statute_0 {p : Program} {l : Launch} {e : Env} {s : State} {m : MethodId} {args : Array Value} {below : List Frame} {meth : Method} {c : Code} {Q : State → Prop} {D : va_G} {kc : Nat → ClassId} {ad : Nat → Nat} {A : Nat → Prop} (C : Cx eM p s m args c cX11_statute 4 RX11 D kc A) {R : Int32 × St} {x1 : Int32} {x2 : Int32} {σ : St} (hR : RTi 0 0 p l e r_X11_statute s m args below meth c cX11_statute tM kc ad D A Q .int R.1 R.2) {H : Heap} {locs : List Loc} {ls : Array Slot} (Z : Dy tM kc ad D A s.heap σ H locs) (hl : lv_has ls 4 [(0, .ref (ad 0)), (1, .int x1), (2, .int x2)]) (h : f_X11_statute x1 x2 σ = some R) : W p l e r_X11_statute s m args below meth c H locs 0 0 Q (F0 m 0 ls []) := by
  have hx := C.1.1
  have hb := C.1.2.1
  unfold f_X11_statute at h
  refine lv_aload_n hx hb dX11_statute_0 rfl (lv_at hl 0 rfl) ?_
  refine rg_X11_350 C Z dX11_statute_1 ?_
  refine lv_bipush (v := 12) hx hb dX11_statute_4 (by decide) ?_
  refine lv_icmp_eq (tgt := 37) hx hb dX11_statute_6 (by decide) (fun c6 => ?_) (fun c6 => ?_)
  · have h := ip h c6
    refine lv_iconst (v := (-1)) hx hb dX11_statute_37 (by decide) ?_
    obtain rfl := Option.some.inj h
    exact hR _ _ _ _ _ Z dX11_statute_38 rfl
  · have h := im h c6
    refine lv_iload_n hx hb dX11_statute_9 rfl (lv_at hl 1 rfl) ?_
    refine lv_i2l (v := x1.toInt64) hx hb dX11_statute_10 rfl ?_
    refine lv_lconst (v := 0) hx hb dX11_statute_11 (by decide) ?_
    refine lv_ldc2 (v := 2) hx hb C.1.2.2.2.1 (C.1.2.2.2.2 _ wDL_X11_255) dX11_statute_12 ?_
    refine g_callSi eM_ok C Z (k_X11_in x1.toInt64 0 2 σ) lk_X11_233 hl (by decide) rfl (Nat.le_of_ble_eq_true rfl) (rest := []) rfl dX11_statute_15 (fun H locs Z => ?_)
    refine lv_if_eq (tgt := 37) hx hb dX11_statute_18 (by decide) (fun c18 => ?_) (fun c18 => ?_)
    · have h := ip h c18
      refine lv_iconst (v := (-1)) hx hb dX11_statute_37 (by decide) ?_
      obtain rfl := Option.some.inj h
      exact hR _ _ _ _ _ Z dX11_statute_38 rfl
    · have h := im h c18
      refine lv_iload_n hx hb dX11_statute_21 rfl (lv_at hl 2 rfl) ?_
      refine lv_i2l (v := x2.toInt64) hx hb dX11_statute_22 rfl ?_
      refine lv_aload_n hx hb dX11_statute_23 rfl (lv_at hl 0 rfl) ?_
      refine rg_X11_237 C Z dX11_statute_24 ?_
      refine lv_i2l (v := (gF σ 0).toInt64) hx hb dX11_statute_27 rfl ?_
      refine lv_ldc2 (v := 8999) hx hb C.1.2.2.2.1 (C.1.2.2.2.2 _ wDL_X11_240) dX11_statute_28 ?_
      refine g_callSi eM_ok C Z (k_X11_in x2.toInt64 ((gF σ 0).toInt64) 8999 σ) lk_X11_233 hl (by decide) rfl (Nat.le_of_ble_eq_true rfl) (rest := []) rfl dX11_statute_31 (fun H locs Z => ?_)
      refine lv_if_ne (tgt := 39) hx hb dX11_statute_34 (by decide) (fun c34 => ?_) (fun c34 => ?_)
      · have h := im h c34
        refine lv_aload_n hx hb dX11_statute_39 rfl (lv_at hl 0 rfl) ?_
        refine lv_iconst (v := 0) hx hb dX11_statute_40 (by decide) ?_
        obtain ⟨σ25, eσ25, h⟩ := lb h
        refine rp_X11_326 C Z eσ25 dX11_statute_41 (fun H locs Z => ?_)
        refine lv_aload_n hx hb dX11_statute_44 rfl (lv_at hl 0 rfl) ?_
        refine lv_iconst (v := 0) hx hb dX11_statute_45 (by decide) ?_
        obtain ⟨σ26, eσ26, h⟩ := lb h
        refine rp_X11_323 C Z eσ26 dX11_statute_46 (fun H locs Z => ?_)
        refine lv_aload_n hx hb dX11_statute_49 rfl (lv_at hl 0 rfl) ?_
        refine lv_iconst (v := 0) hx hb dX11_statute_50 (by decide) ?_
        obtain ⟨σ27, eσ27, h⟩ := lb h
        refine rp_X11_363 C Z eσ27 dX11_statute_51 (fun H locs Z => ?_)
        refine lv_aload_n hx hb dX11_statute_54 rfl (lv_at hl 0 rfl) ?_
        refine lv_iconst (v := 0) hx hb dX11_statute_55 (by decide) ?_
        obtain ⟨σ28, eσ28, h⟩ := lb h
        refine rp_X11_366 C Z eσ28 dX11_statute_56 (fun H locs Z => ?_)
        refine lv_aload_n hx hb dX11_statute_59 rfl (lv_at hl 0 rfl) ?_
        refine lv_iconst (v := 0) hx hb dX11_statute_60 (by decide) ?_
        obtain ⟨σ29, eσ29, h⟩ := lb h
        refine rp_X11_356 C Z eσ29 dX11_statute_61 (fun H locs Z => ?_)
        refine lv_aload_n hx hb dX11_statute_64 rfl (lv_at hl 0 rfl) ?_
        refine lv_iconst (v := 0) hx hb dX11_statute_65 (by decide) ?_
        obtain ⟨σ30, eσ30, h⟩ := lb h
        refine rp_X11_353 C Z eσ30 dX11_statute_66 (fun H locs Z => ?_)
        refine lv_aload_n hx hb dX11_statute_69 rfl (lv_at hl 0 rfl) ?_
        refine rg_X11_71 C Z dX11_statute_70 ?_
        refine lv_aload_n hx hb dX11_statute_73 rfl (lv_at hl 0 rfl) ?_
        refine rg_X11_350 C Z dX11_statute_74 ?_
        refine lv_iconst (v := 0) hx hb dX11_statute_77 (by decide) ?_
        obtain ⟨σ31, hσ31, h⟩ := ob h
        refine g_iast C Z iaM21 hσ31 dX11_statute_78 (fun H locs Z => ?_)
        refine lv_aload_n hx hb dX11_statute_79 rfl (lv_at hl 0 rfl) ?_
        refine lv_iload_n hx hb dX11_statute_80 rfl (lv_at hl 1 rfl) ?_
        obtain ⟨u32, hu32, h⟩ := ob h
        refine g_callVi eM_ok C Z (k_X11_text hu32) lk_X11_436 (by decide) rfl rfl hl (by decide) rfl (Nat.le_of_ble_eq_true rfl) (rest := []) rfl dX11_statute_81 (fun H locs Z => ?_)
        refine lv_istore_n (lv' := [(3, .int u32.1), (0, .ref (ad 0)), (1, .int x1), (2, .int x2)]) hx hb dX11_statute_84 rfl hl (by decide) rfl (fun ls hl => ?_)
        refine lv_aload_n hx hb dX11_statute_85 rfl (lv_at hl 1 rfl) ?_
        refine lv_iconst (v := 0) hx hb dX11_statute_86 (by decide) ?_
        obtain ⟨σ33, eσ33, h⟩ := lb h
        refine rp_X11_316 C Z eσ33 dX11_statute_87 (fun H locs Z => ?_)
        refine lv_iload_n hx hb dX11_statute_90 rfl (lv_at hl 0 rfl) ?_
        refine lv_if_ne (tgt := 102) hx hb dX11_statute_91 (by decide) (fun c91 => ?_) (fun c91 => ?_)
        · have h := im h c91
          refine lv_aload_n hx hb dX11_statute_102 rfl (lv_at hl 1 rfl) ?_
          refine rg_X11_65 C Z dX11_statute_103 ?_
          refine lv_aload_n hx hb dX11_statute_106 rfl (lv_at hl 1 rfl) ?_
          refine rg_X11_350 C Z dX11_statute_107 ?_
          refine lv_iload_n hx hb dX11_statute_110 rfl (lv_at hl 2 rfl) ?_
          obtain ⟨σ34, hσ34, h⟩ := ob h
          refine g_iast C Z iaM19 hσ34 dX11_statute_111 (fun H locs Z => ?_)
          refine lv_aload_n hx hb dX11_statute_112 rfl (lv_at hl 1 rfl) ?_
          refine rg_X11_68 C Z dX11_statute_113 ?_
          refine lv_aload_n hx hb dX11_statute_116 rfl (lv_at hl 1 rfl) ?_
          refine rg_X11_350 C Z dX11_statute_117 ?_
          refine lv_iload_n hx hb dX11_statute_120 rfl (lv_at hl 3 rfl) ?_
          obtain ⟨σ35, hσ35, h⟩ := ob h
          refine g_iast C Z iaM20 hσ35 dX11_statute_121 (fun H locs Z => ?_)
          refine lv_aload_n hx hb dX11_statute_122 rfl (lv_at hl 1 rfl) ?_
          refine lv_dup hx hb dX11_statute_123 rfl ?_
          refine rg_X11_350 C Z dX11_statute_124 ?_
          refine lv_iconst (v := 1) hx hb dX11_statute_127 (by decide) ?_
          refine lv_iadd hx hb dX11_statute_128 ?_
          obtain ⟨σ36, eσ36, h⟩ := lb h
          refine rp_X11_350 C Z eσ36 dX11_statute_129 (fun H locs Z => ?_)
          refine lv_aload_n hx hb dX11_statute_132 rfl (lv_at hl 1 rfl) ?_
          refine rg_X11_350 C Z dX11_statute_133 ?_
          refine lv_iconst (v := 1) hx hb dX11_statute_136 (by decide) ?_
          refine lv_isub hx hb dX11_statute_137 ?_
          obtain rfl := Option.some.inj h
          exact hR _ _ _ _ _ Z dX11_statute_138 rfl
        · have h := ip h c91
          refine lv_bipush (v := (-2)) hx hb dX11_statute_94 (by decide) ?_
          refine lv_aload_n hx hb dX11_statute_96 rfl (lv_at hl 1 rfl) ?_
          refine rg_X11_323 C Z dX11_statute_97 ?_
          refine lv_isub hx hb dX11_statute_100 ?_
          obtain rfl := Option.some.inj h
          exact hR _ _ _ _ _ Z dX11_statute_101 rfl
      · have h := ip h c34
        refine lv_iconst (v := (-1)) hx hb dX11_statute_37 (by decide) ?_
        obtain rfl := Option.some.inj h
        exact hR _ _ _ _ _ Z dX11_statute_38 rfl
theorem k_X11_statute {l : Launch} {kc : Nat → ClassId} {ad : Nat → Nat} {D : va_G} {x1 : Int32} {x2 : Int32} {σ : St} {R : Int32 × St} (h : f_X11_statute x1 x2 σ = some R) : KC eM tM kc ad D l yX11_statute (.code yX11_statute cX11_statute 4 (some .int)) r_X11_statute [.ref (ad 0), .int x1, .int x2] (some (.int R.1)) σ R.2 := by
  refine g_enter (by decide) (Nat.le_of_ble_eq_true rfl) ?_
  intro p e s m args below meth c A hA C hr hlocks Z ls hl
  have hl : lv_has ls 4 [(0, .ref (ad 0)), (1, .int x1), (2, .int x2)] := hl
  exact w_X11_statute_0 C (g_RTi C.1.1 C.1.2.1 hr hlocks hA)  Z hl h
def r_X11_inForce : Room := { frames := 1, cells := 0, slots := 0, locals := 25 }
set_option maxRecDepth 20000 in
theorem w_X11_inForce_23 {p : Program} {l : Launch} {e : Env} {s : State} {m : MethodId} {args : Array Value} {below : List Frame} {meth : Method} {c : Code} {Q : State → Prop} {D : va_G} {kc : Nat → ClassId} {ad : Nat → Nat} {A : Nat → Prop} (C : Cx eM p s m args c cX11_inForce 3 RX11 D kc A) {R : Int32} {σ : St} (hR : RTi 0 0 p l e r_X11_inForce s m args below meth c cX11_inForce tM kc ad D A Q .int R σ) {H : Heap} {locs : List Loc} {ls : Array Slot} (Z : Dy tM kc ad D A s.heap σ H locs) (hl : lv_has ls 3 []) (h : f_X11_inForce_23 σ = some R) : W p l e r_X11_inForce s m args below meth c H locs 0 0 Q (F0 m 23 ls []) := by
  have hx := C.1.1
  have hb := C.1.2.1
  unfold f_X11_inForce_23 at h
  refine lv_iconst (v := (-1)) hx hb dX11_inForce_23 (by decide) ?_
  refine lv_goto (tgt := 41) hx hb dX11_inForce_24 (by decide) ?_
  obtain rfl := Option.some.inj h
  exact hR _ _ _ _ _ Z dX11_inForce_41 rfl
set_option maxRecDepth 20000 in
theorem w_X11_inForce_0 {p : Program} {l : Launch} {e : Env} {s : State} {m : MethodId} {args : Array Value} {below : List Frame} {meth : Method} {c : Code} {Q : State → Prop} {D : va_G} {kc : Nat → ClassId} {ad : Nat → Nat} {A : Nat → Prop} (C : Cx eM p s m args c cX11_inForce 3 RX11 D kc A) {R : Int32} {x1 : Int32} {x2 : Int32} {σ : St} (hR : RTi 0 0 p l e r_X11_inForce s m args below meth c cX11_inForce tM kc ad D A Q .int R σ) {H : Heap} {locs : List Loc} {ls : Array Slot} (Z : Dy tM kc ad D A s.heap σ H locs) (hl : lv_has ls 3 [(0, .ref (ad 0)), (1, .int x1), (2, .int x2)]) (h : f_X11_inForce x1 x2 σ = some R) : W p l e r_X11_inForce s m args below meth c H locs 0 0 Q (F0 m 0 ls []) := by
  have hx := C.1.1
  have hb := C.1.2.1
  unfold f_X11_inForce at h
  refine lv_iload_n hx hb dX11_inForce_0 rfl (lv_at hl 1 rfl) ?_
  refine lv_i2l (v := x1.toInt64) hx hb dX11_inForce_1 rfl ?_
  refine lv_lconst (v := 0) hx hb dX11_inForce_2 (by decide) ?_
  refine lv_aload_n hx hb dX11_inForce_3 rfl (lv_at hl 0 rfl) ?_
  refine rg_X11_350 C Z dX11_inForce_4 ?_
  refine lv_iconst (v := 1) hx hb dX11_inForce_7 (by decide) ?_
  refine lv_isub hx hb dX11_inForce_8 ?_
  refine lv_i2l (v := ((gF σ 25) - 1).toInt64) hx hb dX11_inForce_9 rfl ?_
  refine g_callSi eM_ok C Z (k_X11_in x1.toInt64 0 (((gF σ 25) - 1).toInt64) σ) lk_X11_233 hl (by decide) rfl (Nat.le_of_ble_eq_true rfl) (rest := []) rfl dX11_inForce_10 (fun H locs Z => ?_)
  refine lv_if_eq (tgt := 23) hx hb dX11_inForce_13 (by decide) (fun c13 => ?_) (fun c13 => ?_)
  · have h := ip h c13
    exact w_X11_inForce_23 C hR Z (lv_sub hl [] rfl) h
  · have h := im h c13
    refine lv_iload_n hx hb dX11_inForce_16 rfl (lv_at hl 2 rfl) ?_
    refine g_callSi eM_ok C Z (k_X11_isMinute x2 σ) lk_X11_267 hl (by decide) rfl (Nat.le_of_ble_eq_true rfl) (rest := []) rfl dX11_inForce_17 (fun H locs Z => ?_)
    refine lv_if_ne (tgt := 27) hx hb dX11_inForce_20 (by decide) (fun c20 => ?_) (fun c20 => ?_)
    · have h := im h c20
      refine lv_aload_n hx hb dX11_inForce_27 rfl (lv_at hl 0 rfl) ?_
      refine lv_iload_n hx hb dX11_inForce_28 rfl (lv_at hl 1 rfl) ?_
      refine lv_iload_n hx hb dX11_inForce_29 rfl (lv_at hl 2 rfl) ?_
      obtain ⟨v3, hv3, h⟩ := ob h
      refine g_callVi eM_ok C Z (k_X11_isInForce hv3) lk_X11_462 (by decide) rfl rfl hl (by decide) rfl (Nat.le_of_ble_eq_true rfl) (rest := []) rfl dX11_inForce_30 (fun H locs Z => ?_)
      refine lv_if_eq (tgt := 40) hx hb dX11_inForce_33 (by decide) (fun c33 => ?_) (fun c33 => ?_)
      · have h := ip h c33
        refine lv_iconst (v := 0) hx hb dX11_inForce_40 (by decide) ?_
        obtain rfl := Option.some.inj h
        exact hR _ _ _ _ _ Z dX11_inForce_41 rfl
      · have h := im h c33
        refine lv_iconst (v := 1) hx hb dX11_inForce_36 (by decide) ?_
        refine lv_goto (tgt := 41) hx hb dX11_inForce_37 (by decide) ?_
        obtain rfl := Option.some.inj h
        exact hR _ _ _ _ _ Z dX11_inForce_41 rfl
    · have h := ip h c20
      exact w_X11_inForce_23 C hR Z (lv_sub hl [] rfl) h
theorem k_X11_inForce {l : Launch} {kc : Nat → ClassId} {ad : Nat → Nat} {D : va_G} {x1 : Int32} {x2 : Int32} {σ : St} {R : Int32} (h : f_X11_inForce x1 x2 σ = some R) : KC eM tM kc ad D l yX11_inForce (.code yX11_inForce cX11_inForce 3 (some .int)) r_X11_inForce [.ref (ad 0), .int x1, .int x2] (some (.int R)) σ σ := by
  refine g_enter (by decide) (Nat.le_of_ble_eq_true rfl) ?_
  intro p e s m args below meth c A hA C hr hlocks Z ls hl
  have hl : lv_has ls 3 [(0, .ref (ad 0)), (1, .int x1), (2, .int x2)] := hl
  exact w_X11_inForce_0 C (g_RTi C.1.1 C.1.2.1 hr hlocks hA)  Z hl h
def r_X11_mayBy : Room := { frames := 5, cells := 0, slots := 0, locals := 129 }
set_option maxRecDepth 20000 in
theorem w_X11_mayBy_0 {p : Program} {l : Launch} {e : Env} {s : State} {m : MethodId} {args : Array Value} {below : List Frame} {meth : Method} {c : Code} {Q : State → Prop} {D : va_G} {kc : Nat → ClassId} {ad : Nat → Nat} {A : Nat → Prop} (C : Cx eM p s m args c cX11_mayBy 9 RX11 D kc A) {R : Int32 × St} {x1 : Int32} {x2 : Int32} {x3 : Int32} {x4 : Int32} {x5 : Int32} {x6 : Int32} {σ : St} (hR : RTi 0 0 p l e r_X11_mayBy s m args below meth c cX11_mayBy tM kc ad D A Q .int R.1 R.2) {H : Heap} {locs : List Loc} {ls : Array Slot} (Z : Dy tM kc ad D A s.heap σ H locs) (hl : lv_has ls 9 [(0, .ref (ad 0)), (1, .int x1), (2, .int x2), (3, .int x3), (4, .int x4), (5, .int x5), (6, .int x6)]) (h : f_X11_mayBy x1 x2 x3 x4 x5 x6 σ = some R) : W p l e r_X11_mayBy s m args below meth c H locs 0 0 Q (F0 m 0 ls []) := by
  have hx := C.1.1
  have hb := C.1.2.1
  unfold f_X11_mayBy at h
  refine lv_iload_n hx hb dX11_mayBy_0 rfl (lv_at hl 1 rfl) ?_
  refine lv_iconst (v := 2) hx hb dX11_mayBy_1 (by decide) ?_
  obtain ⟨v9, ev9, h⟩ := lb h
  have hj : W p l e r_X11_mayBy s m args below meth c H locs 0 0 Q (F0 m 10 ls [.int v9]) := by
    refine lv_istore (lv' := [(7, .int v9), (0, .ref (ad 0)), (1, .int x1), (2, .int x2), (3, .int x3), (4, .int x4), (5, .int x5), (6, .int x6)]) hx hb dX11_mayBy_10 hl (by decide) rfl (fun ls hl => ?_)
    refine lv_aload_n hx hb dX11_mayBy_12 rfl (lv_at hl 1 rfl) ?_
    refine lv_iload hx hb dX11_mayBy_13 (lv_at hl 0 rfl) ?_
    refine lv_iconst (v := 0) hx hb dX11_mayBy_15 (by decide) ?_
    refine lv_iload hx hb dX11_mayBy_16 (lv_at hl 5 rfl) ?_
    refine lv_iload hx hb dX11_mayBy_18 (lv_at hl 6 rfl) ?_
    refine lv_aload_n hx hb dX11_mayBy_20 rfl (lv_at hl 1 rfl) ?_
    refine lv_iload hx hb dX11_mayBy_21 (lv_at hl 0 rfl) ?_
    refine lv_iload hx hb dX11_mayBy_23 (lv_at hl 7 rfl) ?_
    obtain ⟨u10, hu10, h⟩ := ob h
    refine g_callVi eM_ok C Z (k_X11_reachOf hu10) lk_X11_306 (by decide) rfl rfl hl (by decide) rfl (Nat.le_of_ble_eq_true rfl) (rest := [.int x5, .int x4, .int 0, .int v9, .ref (ad 0)]) rfl dX11_mayBy_25 (fun H locs Z => ?_)
    obtain ⟨v11, hv11, h⟩ := ob h
    refine g_callVi eM_ok C Z (k_X11_isNear hv11) lk_X11_310 (by decide) rfl rfl hl (by decide) rfl (Nat.le_of_ble_eq_true rfl) (rest := []) rfl dX11_mayBy_28 (fun H locs Z => ?_)
    obtain ⟨v12, ev12, h⟩ := lb h
    have hj : W p l e r_X11_mayBy s m args below meth c H locs 0 0 Q (F0 m 39 ls [.int v12]) := by
      refine lv_istore (lv' := [(8, .int v12), (7, .int v9), (0, .ref (ad 0)), (1, .int x1), (2, .int x2), (3, .int x3), (4, .int x4), (5, .int x5), (6, .int x6)]) hx hb dX11_mayBy_39 hl (by decide) rfl (fun ls hl => ?_)
      refine lv_aload_n hx hb dX11_mayBy_41 rfl (lv_at hl 2 rfl) ?_
      refine lv_iload hx hb dX11_mayBy_42 (lv_at hl 8 rfl) ?_
      refine lv_iload_n hx hb dX11_mayBy_44 rfl (lv_at hl 5 rfl) ?_
      refine lv_iload hx hb dX11_mayBy_45 (lv_at hl 6 rfl) ?_
      refine lv_iload hx hb dX11_mayBy_47 (lv_at hl 7 rfl) ?_
      refine lv_iload hx hb dX11_mayBy_49 (lv_at hl 0 rfl) ?_
      obtain ⟨σ13, hσ13, h⟩ := ob h
      refine g_callVv eM_ok C Z (k_X11_asks hσ13) lk_X11_293 (by decide) rfl rfl hl (by decide) rfl (Nat.le_of_ble_eq_true rfl) (rest := []) rfl dX11_mayBy_51 (fun H locs Z => ?_)
      refine lv_aload_n hx hb dX11_mayBy_54 rfl (lv_at hl 2 rfl) ?_
      refine lv_iload_n hx hb dX11_mayBy_55 rfl (lv_at hl 3 rfl) ?_
      refine lv_iconst (v := 2) hx hb dX11_mayBy_56 (by decide) ?_
      refine lv_iload_n hx hb dX11_mayBy_57 rfl (lv_at hl 4 rfl) ?_
      refine lv_iadd hx hb dX11_mayBy_58 ?_
      refine lv_iload hx hb dX11_mayBy_59 (lv_at hl 8 rfl) ?_
      obtain ⟨u14, hu14, h⟩ := ob h
      refine g_callVi eM_ok C Z (k_X11_telling hu14) lk_X11_297 (by decide) rfl rfl hl (by decide) rfl (Nat.le_of_ble_eq_true rfl) (rest := []) rfl dX11_mayBy_61 (fun H locs Z => ?_)
      obtain rfl := Option.some.inj h
      exact hR _ _ _ _ _ Z dX11_mayBy_64 rfl
    refine lv_if_eq (tgt := 38) hx hb dX11_mayBy_31 (by decide) (fun c31 => ?_) (fun c31 => ?_)
    · rw [if_pos c31] at ev12
      refine lv_iconst (v := 0) hx hb dX11_mayBy_38 (by decide) ?_
      exact tn_i ev12 hj
    · rw [if_neg c31] at ev12
      refine lv_iconst (v := 1) hx hb dX11_mayBy_34 (by decide) ?_
      refine lv_goto (tgt := 39) hx hb dX11_mayBy_35 (by decide) ?_
      exact tn_i ev12 hj
  refine lv_icmp_ne (tgt := 9) hx hb dX11_mayBy_2 (by decide) (fun c2 => ?_) (fun c2 => ?_)
  · rw [if_neg c2] at ev9
    refine lv_iload_n hx hb dX11_mayBy_9 rfl (lv_at hl 1 rfl) ?_
    exact tn_i ev9 hj
  · rw [if_pos c2] at ev9
    refine lv_iconst (v := 0) hx hb dX11_mayBy_5 (by decide) ?_
    refine lv_goto (tgt := 10) hx hb dX11_mayBy_6 (by decide) ?_
    exact tn_i ev9 hj
theorem k_X11_mayBy {l : Launch} {kc : Nat → ClassId} {ad : Nat → Nat} {D : va_G} {x1 : Int32} {x2 : Int32} {x3 : Int32} {x4 : Int32} {x5 : Int32} {x6 : Int32} {σ : St} {R : Int32 × St} (h : f_X11_mayBy x1 x2 x3 x4 x5 x6 σ = some R) : KC eM tM kc ad D l yX11_mayBy (.code yX11_mayBy cX11_mayBy 9 (some .int)) r_X11_mayBy [.ref (ad 0), .int x1, .int x2, .int x3, .int x4, .int x5, .int x6] (some (.int R.1)) σ R.2 := by
  refine g_enter (by decide) (Nat.le_of_ble_eq_true rfl) ?_
  intro p e s m args below meth c A hA C hr hlocks Z ls hl
  have hl : lv_has ls 9 [(0, .ref (ad 0)), (1, .int x1), (2, .int x2), (3, .int x3), (4, .int x4), (5, .int x5), (6, .int x6)] := hl
  exact w_X11_mayBy_0 C (g_RTi C.1.1 C.1.2.1 hr hlocks hA)  Z hl h
def r_X11_mayDo : Room := { frames := 6, cells := 0, slots := 0, locals := 157 }
set_option maxRecDepth 20000 in
theorem w_X11_mayDo_29 {p : Program} {l : Launch} {e : Env} {s : State} {m : MethodId} {args : Array Value} {below : List Frame} {meth : Method} {c : Code} {Q : State → Prop} {D : va_G} {kc : Nat → ClassId} {ad : Nat → Nat} {A : Nat → Prop} (C : Cx eM p s m args c cX11_mayDo 8 RX11 D kc A) {R : Int32 × St} {σ : St} (hR : RTi 0 0 p l e r_X11_mayDo s m args below meth c cX11_mayDo tM kc ad D A Q .boolean R.1 R.2) {H : Heap} {locs : List Loc} {ls : Array Slot} (Z : Dy tM kc ad D A s.heap σ H locs) (hl : lv_has ls 8 []) (h : f_X11_mayDo_29 σ = some R) : W p l e r_X11_mayDo s m args below meth c H locs 0 0 Q (F0 m 29 ls []) := by
  have hx := C.1.1
  have hb := C.1.2.1
  unfold f_X11_mayDo_29 at h
  refine lv_iconst (v := 1) hx hb dX11_mayDo_29 (by decide) ?_
  refine lv_goto (tgt := 53) hx hb dX11_mayDo_30 (by decide) ?_
  obtain rfl := Option.some.inj h
  exact hR _ _ _ _ _ Z dX11_mayDo_53 rfl
set_option maxRecDepth 20000 in
theorem w_X11_mayDo_0 {p : Program} {l : Launch} {e : Env} {s : State} {m : MethodId} {args : Array Value} {below : List Frame} {meth : Method} {c : Code} {Q : State → Prop} {D : va_G} {kc : Nat → ClassId} {ad : Nat → Nat} {A : Nat → Prop} (C : Cx eM p s m args c cX11_mayDo 8 RX11 D kc A) {R : Int32 × St} {x1 : Int32} {x2 : Int32} {x3 : Int32} {x4 : Int32} {x5 : Int32} {x6 : Int32} {σ : St} (hR : RTi 0 0 p l e r_X11_mayDo s m args below meth c cX11_mayDo tM kc ad D A Q .boolean R.1 R.2) {H : Heap} {locs : List Loc} {ls : Array Slot} (Z : Dy tM kc ad D A s.heap σ H locs) (hl : lv_has ls 8 [(0, .ref (ad 0)), (1, .int x1), (2, .int x2), (3, .int x3), (4, .int x4), (5, .int x5), (6, .int x6)]) (h : f_X11_mayDo x1 x2 x3 x4 x5 x6 σ = some R) : W p l e r_X11_mayDo s m args below meth c H locs 0 0 Q (F0 m 0 ls []) := by
  have hx := C.1.1
  have hb := C.1.2.1
  unfold f_X11_mayDo at h
  refine lv_aload_n hx hb dX11_mayDo_0 rfl (lv_at hl 0 rfl) ?_
  refine lv_iload_n hx hb dX11_mayDo_1 rfl (lv_at hl 1 rfl) ?_
  refine lv_iload_n hx hb dX11_mayDo_2 rfl (lv_at hl 2 rfl) ?_
  refine lv_iload_n hx hb dX11_mayDo_3 rfl (lv_at hl 3 rfl) ?_
  refine lv_iload hx hb dX11_mayDo_4 (lv_at hl 4 rfl) ?_
  refine lv_iload hx hb dX11_mayDo_6 (lv_at hl 5 rfl) ?_
  refine lv_iload hx hb dX11_mayDo_8 (lv_at hl 6 rfl) ?_
  obtain ⟨u5, hu5, h⟩ := ob h
  refine g_callVi eM_ok C Z (k_X11_mayBy hu5) lk_X11_468 (by decide) rfl rfl hl (by decide) rfl (Nat.le_of_ble_eq_true rfl) (rest := []) rfl dX11_mayDo_10 (fun H locs Z => ?_)
  refine lv_istore (lv' := [(7, .int u5.1), (0, .ref (ad 0)), (1, .int x1), (2, .int x2), (3, .int x3), (4, .int x4), (5, .int x5), (6, .int x6)]) hx hb dX11_mayDo_13 hl (by decide) rfl (fun ls hl => ?_)
  refine lv_iload hx hb dX11_mayDo_15 (lv_at hl 0 rfl) ?_
  refine lv_if_ge (tgt := 37) hx hb dX11_mayDo_17 (by decide) (fun c17 => ?_) (fun c17 => ?_)
  · have h := ip h c17
    refine lv_aload_n hx hb dX11_mayDo_37 rfl (lv_at hl 1 rfl) ?_
    refine rg_X11_77 C Z dX11_mayDo_38 ?_
    refine lv_iload hx hb dX11_mayDo_41 (lv_at hl 0 rfl) ?_
    obtain ⟨v6, hv6, h⟩ := ob h
    refine g_iald C Z iaM23 hv6 dX11_mayDo_43 ?_
    refine lv_iconst (v := 1) hx hb dX11_mayDo_44 (by decide) ?_
    refine lv_icmp_ne (tgt := 52) hx hb dX11_mayDo_45 (by decide) (fun c45 => ?_) (fun c45 => ?_)
    · have h := im h c45
      refine lv_iconst (v := 0) hx hb dX11_mayDo_52 (by decide) ?_
      obtain rfl := Option.some.inj h
      exact hR _ _ _ _ _ Z dX11_mayDo_53 rfl
    · have h := ip h c45
      refine lv_iconst (v := 1) hx hb dX11_mayDo_48 (by decide) ?_
      refine lv_goto (tgt := 53) hx hb dX11_mayDo_49 (by decide) ?_
      obtain rfl := Option.some.inj h
      exact hR _ _ _ _ _ Z dX11_mayDo_53 rfl
  · have h := im h c17
    refine lv_iload_n hx hb dX11_mayDo_20 rfl (lv_at hl 3 rfl) ?_
    refine lv_if_eq (tgt := 29) hx hb dX11_mayDo_21 (by decide) (fun c21 => ?_) (fun c21 => ?_)
    · have h := ip h c21
      exact w_X11_mayDo_29 C hR Z (lv_sub hl [] rfl) h
    · have h := im h c21
      refine lv_iload_n hx hb dX11_mayDo_24 rfl (lv_at hl 3 rfl) ?_
      refine lv_iconst (v := 4) hx hb dX11_mayDo_25 (by decide) ?_
      refine lv_icmp_ne (tgt := 33) hx hb dX11_mayDo_26 (by decide) (fun c26 => ?_) (fun c26 => ?_)
      · have h := im h c26
        refine lv_iconst (v := 0) hx hb dX11_mayDo_33 (by decide) ?_
        refine lv_goto (tgt := 53) hx hb dX11_mayDo_34 (by decide) ?_
        obtain rfl := Option.some.inj h
        exact hR _ _ _ _ _ Z dX11_mayDo_53 rfl
      · have h := ip h c26
        exact w_X11_mayDo_29 C hR Z (lv_sub hl [] rfl) h
theorem k_X11_mayDo {l : Launch} {kc : Nat → ClassId} {ad : Nat → Nat} {D : va_G} {x1 : Int32} {x2 : Int32} {x3 : Int32} {x4 : Int32} {x5 : Int32} {x6 : Int32} {σ : St} {R : Int32 × St} (h : f_X11_mayDo x1 x2 x3 x4 x5 x6 σ = some R) : KC eM tM kc ad D l yX11_mayDo (.code yX11_mayDo cX11_mayDo 8 (some .boolean)) r_X11_mayDo [.ref (ad 0), .int x1, .int x2, .int x3, .int x4, .int x5, .int x6] (some (.int R.1)) σ R.2 := by
  refine g_enter (by decide) (Nat.le_of_ble_eq_true rfl) ?_
  intro p e s m args below meth c A hA C hr hlocks Z ls hl
  have hl : lv_has ls 8 [(0, .ref (ad 0)), (1, .int x1), (2, .int x2), (3, .int x3), (4, .int x4), (5, .int x5), (6, .int x6)] := hl
  exact w_X11_mayDo_0 C (g_RTi C.1.1 C.1.2.1 hr hlocks hA)  Z hl h
def r_X11_isWhat : Room := { frames := 1, cells := 0, slots := 0, locals := 25 }
set_option maxRecDepth 20000 in
theorem w_X11_isWhat_28 {p : Program} {l : Launch} {e : Env} {s : State} {m : MethodId} {args : Array Value} {below : List Frame} {meth : Method} {c : Code} {Q : State → Prop} {D : va_G} {kc : Nat → ClassId} {ad : Nat → Nat} {A : Nat → Prop} (C : Cx eM p s m args c cX11_isWhat 2 RX11 D kc A) {R : Int32} {σ : St} (hR : RTi 0 0 p l e r_X11_isWhat s m args below meth c cX11_isWhat tM kc ad D A Q .boolean R σ) {H : Heap} {locs : List Loc} {ls : Array Slot} (Z : Dy tM kc ad D A s.heap σ H locs) (hl : lv_has ls 2 []) (h : f_X11_isWhat_28 = R) : W p l e r_X11_isWhat s m args below meth c H locs 0 0 Q (F0 m 28 ls []) := by
  have hx := C.1.1
  have hb := C.1.2.1
  unfold f_X11_isWhat_28 at h
  refine lv_iconst (v := 0) hx hb dX11_isWhat_28 (by decide) ?_
  subst h
  exact hR _ _ _ _ _ Z dX11_isWhat_29 rfl
set_option maxRecDepth 20000 in
theorem w_X11_isWhat_0 {p : Program} {l : Launch} {e : Env} {s : State} {m : MethodId} {args : Array Value} {below : List Frame} {meth : Method} {c : Code} {Q : State → Prop} {D : va_G} {kc : Nat → ClassId} {ad : Nat → Nat} {A : Nat → Prop} (C : Cx eM p s m args c cX11_isWhat 2 RX11 D kc A) {R : Int32} {x0 : Int32} {x1 : Int32} {σ : St} (hR : RTi 0 0 p l e r_X11_isWhat s m args below meth c cX11_isWhat tM kc ad D A Q .boolean R σ) {H : Heap} {locs : List Loc} {ls : Array Slot} (Z : Dy tM kc ad D A s.heap σ H locs) (hl : lv_has ls 2 [(0, .int x0), (1, .int x1)]) (h : f_X11_isWhat x0 x1 = R) : W p l e r_X11_isWhat s m args below meth c H locs 0 0 Q (F0 m 0 ls []) := by
  have hx := C.1.1
  have hb := C.1.2.1
  unfold f_X11_isWhat at h
  refine lv_iload_n hx hb dX11_isWhat_0 rfl (lv_at hl 0 rfl) ?_
  refine lv_i2l (v := x0.toInt64) hx hb dX11_isWhat_1 rfl ?_
  refine lv_lconst (v := 0) hx hb dX11_isWhat_2 (by decide) ?_
  refine lv_ldc2 (v := 2) hx hb C.1.2.2.2.1 (C.1.2.2.2.2 _ wDL_X11_255) dX11_isWhat_3 ?_
  refine g_callSi eM_ok C Z (k_X11_in x0.toInt64 0 2 σ) lk_X11_233 hl (by decide) rfl (Nat.le_of_ble_eq_true rfl) (rest := []) rfl dX11_isWhat_6 (fun H locs Z => ?_)
  refine lv_if_eq (tgt := 28) hx hb dX11_isWhat_9 (by decide) (fun c9 => ?_) (fun c9 => ?_)
  · have h := ip h c9
    exact w_X11_isWhat_28 C hR Z (lv_sub hl [] rfl) h
  · have h := im h c9
    refine lv_iload_n hx hb dX11_isWhat_12 rfl (lv_at hl 1 rfl) ?_
    refine lv_i2l (v := x1.toInt64) hx hb dX11_isWhat_13 rfl ?_
    refine lv_lconst (v := 0) hx hb dX11_isWhat_14 (by decide) ?_
    refine lv_ldc2 (v := 4) hx hb C.1.2.2.2.1 (C.1.2.2.2.2 _ wDL_X11_472) dX11_isWhat_15 ?_
    refine g_callSi eM_ok C Z (k_X11_in x1.toInt64 0 4 σ) lk_X11_233 hl (by decide) rfl (Nat.le_of_ble_eq_true rfl) (rest := []) rfl dX11_isWhat_18 (fun H locs Z => ?_)
    refine lv_if_eq (tgt := 28) hx hb dX11_isWhat_21 (by decide) (fun c21 => ?_) (fun c21 => ?_)
    · have h := ip h c21
      exact w_X11_isWhat_28 C hR Z (lv_sub hl [] rfl) h
    · have h := im h c21
      refine lv_iconst (v := 1) hx hb dX11_isWhat_24 (by decide) ?_
      refine lv_goto (tgt := 29) hx hb dX11_isWhat_25 (by decide) ?_
      subst h
      exact hR _ _ _ _ _ Z dX11_isWhat_29 rfl
theorem k_X11_isWhat {l : Launch} {kc : Nat → ClassId} {ad : Nat → Nat} {D : va_G} (x0 : Int32) (x1 : Int32) (σ : St) : KC eM tM kc ad D l yX11_isWhat (.code yX11_isWhat cX11_isWhat 2 (some .boolean)) r_X11_isWhat [.int x0, .int x1] (some (.int (f_X11_isWhat x0 x1))) σ σ := by
  refine g_enter (by decide) (Nat.le_of_ble_eq_true rfl) ?_
  intro p e s m args below meth c A hA C hr hlocks Z ls hl
  have hl : lv_has ls 2 [(0, .int x0), (1, .int x1)] := hl
  exact w_X11_isWhat_0 C (g_RTi C.1.1 C.1.2.1 hr hlocks hA)  Z hl rfl
def r_X11_may : Room := { frames := 7, cells := 0, slots := 0, locals := 184 }
set_option maxRecDepth 20000 in
theorem w_X11_may_0 {p : Program} {l : Launch} {e : Env} {s : State} {m : MethodId} {args : Array Value} {below : List Frame} {meth : Method} {c : Code} {Q : State → Prop} {D : va_G} {kc : Nat → ClassId} {ad : Nat → Nat} {A : Nat → Prop} (C : Cx eM p s m args c cX11_may 7 RX11 D kc A) {R : Int32 × St} {x1 : Int32} {x2 : Int32} {x3 : Int32} {x4 : Int32} {x5 : Int32} {x6 : Int32} {σ : St} (hR : RTi 0 0 p l e r_X11_may s m args below meth c cX11_may tM kc ad D A Q .int R.1 R.2) {H : Heap} {locs : List Loc} {ls : Array Slot} (Z : Dy tM kc ad D A s.heap σ H locs) (hl : lv_has ls 7 [(0, .ref (ad 0)), (1, .int x1), (2, .int x2), (3, .int x3), (4, .int x4), (5, .int x5), (6, .int x6)]) (h : f_X11_may x1 x2 x3 x4 x5 x6 σ = some R) : W p l e r_X11_may s m args below meth c H locs 0 0 Q (F0 m 0 ls []) := by
  have hx := C.1.1
  have hb := C.1.2.1
  unfold f_X11_may at h
  refine lv_iload_n hx hb dX11_may_0 rfl (lv_at hl 1 rfl) ?_
  refine lv_iload_n hx hb dX11_may_1 rfl (lv_at hl 2 rfl) ?_
  refine g_callSi eM_ok C Z (k_X11_isWhat x1 x2 σ) lk_X11_474 hl (by decide) rfl (Nat.le_of_ble_eq_true rfl) (rest := []) rfl dX11_may_2 (fun H locs Z => ?_)
  refine lv_if_eq (tgt := 34) hx hb dX11_may_5 (by decide) (fun c5 => ?_) (fun c5 => ?_)
  · have h := ip h c5
    refine lv_iconst (v := (-1)) hx hb dX11_may_34 (by decide) ?_
    obtain rfl := Option.some.inj h
    exact hR _ _ _ _ _ Z dX11_may_35 rfl
  · have h := im h c5
    refine lv_aload_n hx hb dX11_may_8 rfl (lv_at hl 0 rfl) ?_
    refine lv_iload_n hx hb dX11_may_9 rfl (lv_at hl 3 rfl) ?_
    refine g_callVi eM_ok C Z (k_X11_isShip x3 σ) lk_X11_264 (by decide) rfl rfl hl (by decide) rfl (Nat.le_of_ble_eq_true rfl) (rest := []) rfl dX11_may_10 (fun H locs Z => ?_)
    refine lv_if_eq (tgt := 34) hx hb dX11_may_13 (by decide) (fun c13 => ?_) (fun c13 => ?_)
    · have h := ip h c13
      refine lv_iconst (v := (-1)) hx hb dX11_may_34 (by decide) ?_
      obtain rfl := Option.some.inj h
      exact hR _ _ _ _ _ Z dX11_may_35 rfl
    · have h := im h c13
      refine lv_iload hx hb dX11_may_16 (lv_at hl 4 rfl) ?_
      refine lv_iload hx hb dX11_may_18 (lv_at hl 5 rfl) ?_
      refine g_callSi eM_ok C Z (k_X11_isCell x4 x5 σ) lk_X11_242 hl (by decide) rfl (Nat.le_of_ble_eq_true rfl) (rest := []) rfl dX11_may_20 (fun H locs Z => ?_)
      refine lv_if_eq (tgt := 34) hx hb dX11_may_23 (by decide) (fun c23 => ?_) (fun c23 => ?_)
      · have h := ip h c23
        refine lv_iconst (v := (-1)) hx hb dX11_may_34 (by decide) ?_
        obtain rfl := Option.some.inj h
        exact hR _ _ _ _ _ Z dX11_may_35 rfl
      · have h := im h c23
        refine lv_iload hx hb dX11_may_26 (lv_at hl 6 rfl) ?_
        refine g_callSi eM_ok C Z (k_X11_isMinute x6 σ) lk_X11_267 hl (by decide) rfl (Nat.le_of_ble_eq_true rfl) (rest := []) rfl dX11_may_28 (fun H locs Z => ?_)
        refine lv_if_ne (tgt := 36) hx hb dX11_may_31 (by decide) (fun c31 => ?_) (fun c31 => ?_)
        · have h := im h c31
          refine lv_aload_n hx hb dX11_may_36 rfl (lv_at hl 0 rfl) ?_
          refine lv_iload_n hx hb dX11_may_37 rfl (lv_at hl 1 rfl) ?_
          refine lv_iload_n hx hb dX11_may_38 rfl (lv_at hl 2 rfl) ?_
          refine lv_iload_n hx hb dX11_may_39 rfl (lv_at hl 3 rfl) ?_
          refine lv_iload hx hb dX11_may_40 (lv_at hl 4 rfl) ?_
          refine lv_iload hx hb dX11_may_42 (lv_at hl 5 rfl) ?_
          refine lv_iload hx hb dX11_may_44 (lv_at hl 6 rfl) ?_
          obtain ⟨u3, hu3, h⟩ := ob h
          refine g_callVi eM_ok C Z (k_X11_mayDo hu3) lk_X11_477 (by decide) rfl rfl hl (by decide) rfl (Nat.le_of_ble_eq_true rfl) (rest := []) rfl dX11_may_46 (fun H locs Z => ?_)
          obtain ⟨v4, ev4, h⟩ := lb h
          have hj : W p l e r_X11_may s m args below meth c H locs 0 0 Q (F0 m 57 ls [.int v4]) := by
            obtain rfl := Option.some.inj h
            exact hR _ _ _ _ _ Z dX11_may_57 rfl
          refine lv_if_eq (tgt := 56) hx hb dX11_may_49 (by decide) (fun c49 => ?_) (fun c49 => ?_)
          · rw [if_pos c49] at ev4
            refine lv_iconst (v := 0) hx hb dX11_may_56 (by decide) ?_
            exact tn_i ev4 hj
          · rw [if_neg c49] at ev4
            refine lv_iconst (v := 1) hx hb dX11_may_52 (by decide) ?_
            refine lv_goto (tgt := 57) hx hb dX11_may_53 (by decide) ?_
            exact tn_i ev4 hj
        · have h := ip h c31
          refine lv_iconst (v := (-1)) hx hb dX11_may_34 (by decide) ?_
          obtain rfl := Option.some.inj h
          exact hR _ _ _ _ _ Z dX11_may_35 rfl
theorem k_X11_may {l : Launch} {kc : Nat → ClassId} {ad : Nat → Nat} {D : va_G} {x1 : Int32} {x2 : Int32} {x3 : Int32} {x4 : Int32} {x5 : Int32} {x6 : Int32} {σ : St} {R : Int32 × St} (h : f_X11_may x1 x2 x3 x4 x5 x6 σ = some R) : KC eM tM kc ad D l yX11_may (.code yX11_may cX11_may 7 (some .int)) r_X11_may [.ref (ad 0), .int x1, .int x2, .int x3, .int x4, .int x5, .int x6] (some (.int R.1)) σ R.2 := by
  refine g_enter (by decide) (Nat.le_of_ble_eq_true rfl) ?_
  intro p e s m args below meth c A hA C hr hlocks Z ls hl
  have hl : lv_has ls 7 [(0, .ref (ad 0)), (1, .int x1), (2, .int x2), (3, .int x3), (4, .int x4), (5, .int x5), (6, .int x6)] := hl
  exact w_X11_may_0 C (g_RTi C.1.1 C.1.2.1 hr hlocks hA)  Z hl h
def r_X11_meshOf : Room := { frames := 4, cells := 0, slots := 0, locals := 104 }
set_option maxRecDepth 20000 in
theorem w_X11_meshOf_0 {p : Program} {l : Launch} {e : Env} {s : State} {m : MethodId} {args : Array Value} {below : List Frame} {meth : Method} {c : Code} {Q : State → Prop} {D : va_G} {kc : Nat → ClassId} {ad : Nat → Nat} {A : Nat → Prop} (C : Cx eM p s m args c cX11_meshOf 7 RX11 D kc A) {R : Int64 × St} {x1 : Int32} {x2 : Int32} {x3 : Int32} {x4 : Int32} {x5 : Int32} {σ : St} (hR : RTl 0 0 p l e r_X11_meshOf s m args below meth c cX11_meshOf tM kc ad D A Q R.1 R.2) {H : Heap} {locs : List Loc} {ls : Array Slot} (Z : Dy tM kc ad D A s.heap σ H locs) (hl : lv_has ls 7 [(0, .ref (ad 0)), (1, .int x1), (2, .int x2), (3, .int x3), (4, .int x4), (5, .int x5)]) (h : f_X11_meshOf x1 x2 x3 x4 x5 σ = some R) : W p l e r_X11_meshOf s m args below meth c H locs 0 0 Q (F0 m 0 ls []) := by
  have hx := C.1.1
  have hb := C.1.2.1
  unfold f_X11_meshOf at h
  refine lv_aload_n hx hb dX11_meshOf_0 rfl (lv_at hl 0 rfl) ?_
  refine lv_iload hx hb dX11_meshOf_1 (lv_at hl 5 rfl) ?_
  refine lv_iload_n hx hb dX11_meshOf_3 rfl (lv_at hl 2 rfl) ?_
  refine lv_iload_n hx hb dX11_meshOf_4 rfl (lv_at hl 3 rfl) ?_
  refine lv_iload hx hb dX11_meshOf_5 (lv_at hl 4 rfl) ?_
  refine lv_iconst (v := 0) hx hb dX11_meshOf_7 (by decide) ?_
  obtain ⟨σ11, hσ11, h⟩ := ob h
  refine g_callVv eM_ok C Z (k_X11_asks hσ11) lk_X11_293 (by decide) rfl rfl hl (by decide) rfl (Nat.le_of_ble_eq_true rfl) (rest := []) rfl dX11_meshOf_8 (fun H locs Z => ?_)
  refine lv_aload_n hx hb dX11_meshOf_11 rfl (lv_at hl 0 rfl) ?_
  refine lv_iload_n hx hb dX11_meshOf_12 rfl (lv_at hl 1 rfl) ?_
  refine lv_iconst (v := 1) hx hb dX11_meshOf_13 (by decide) ?_
  refine lv_iload hx hb dX11_meshOf_14 (lv_at hl 5 rfl) ?_
  obtain ⟨u12, hu12, h⟩ := ob h
  refine g_callVi eM_ok C Z (k_X11_telling hu12) lk_X11_297 (by decide) rfl rfl hl (by decide) rfl (Nat.le_of_ble_eq_true rfl) (rest := []) rfl dX11_meshOf_16 (fun H locs Z => ?_)
  refine lv_istore (lv' := [(6, .int u12.1), (0, .ref (ad 0)), (1, .int x1), (2, .int x2), (3, .int x3), (4, .int x4), (5, .int x5)]) hx hb dX11_meshOf_19 hl (by decide) rfl (fun ls hl => ?_)
  refine lv_iload hx hb dX11_meshOf_21 (lv_at hl 0 rfl) ?_
  refine lv_if_ge (tgt := 30) hx hb dX11_meshOf_23 (by decide) (fun c23 => ?_) (fun c23 => ?_)
  · have h := ip h c23
    refine lv_aload_n hx hb dX11_meshOf_30 rfl (lv_at hl 1 rfl) ?_
    refine lv_aload_n hx hb dX11_meshOf_31 rfl (lv_at hl 1 rfl) ?_
    refine rg_X11_80 C Z dX11_meshOf_32 ?_
    refine lv_iload hx hb dX11_meshOf_35 (lv_at hl 0 rfl) ?_
    obtain ⟨v13, hv13, h⟩ := ob h
    refine g_iald C Z iaM24 hv13 dX11_meshOf_37 ?_
    refine lv_aload_n hx hb dX11_meshOf_38 rfl (lv_at hl 1 rfl) ?_
    refine rg_X11_83 C Z dX11_meshOf_39 ?_
    refine lv_iload hx hb dX11_meshOf_42 (lv_at hl 0 rfl) ?_
    obtain ⟨v14, hv14, h⟩ := ob h
    refine g_iald C Z iaM25 hv14 dX11_meshOf_44 ?_
    refine lv_iload hx hb dX11_meshOf_45 (lv_at hl 0 rfl) ?_
    refine lv_bipush (v := 12) hx hb dX11_meshOf_47 (by decide) ?_
    refine lv_idiv hx hb dX11_meshOf_49 (by decide) ?_
    obtain ⟨u15, hu15, h⟩ := ob h
    refine g_callVl eM_ok C Z (k_X11_works hu15) lk_X11_300 (by decide) rfl rfl hl (by decide) rfl (Nat.le_of_ble_eq_true rfl) (rest := []) rfl dX11_meshOf_50 (fun H locs Z => ?_)
    obtain rfl := Option.some.inj h
    exact hR _ _ _ _ Z dX11_meshOf_53
  · have h := im h c23
    refine lv_lconst (v := 0) hx hb dX11_meshOf_26 (by decide) ?_
    refine lv_goto (tgt := 53) hx hb dX11_meshOf_27 (by decide) ?_
    obtain rfl := Option.some.inj h
    exact hR _ _ _ _ Z dX11_meshOf_53
theorem k_X11_meshOf {l : Launch} {kc : Nat → ClassId} {ad : Nat → Nat} {D : va_G} {x1 : Int32} {x2 : Int32} {x3 : Int32} {x4 : Int32} {x5 : Int32} {σ : St} {R : Int64 × St} (h : f_X11_meshOf x1 x2 x3 x4 x5 σ = some R) : KC eM tM kc ad D l yX11_meshOf (.code yX11_meshOf cX11_meshOf 7 (some .long)) r_X11_meshOf [.ref (ad 0), .int x1, .int x2, .int x3, .int x4, .int x5] (some (.long R.1)) σ R.2 := by
  refine g_enter (by decide) (Nat.le_of_ble_eq_true rfl) ?_
  intro p e s m args below meth c A hA C hr hlocks Z ls hl
  have hl : lv_has ls 7 [(0, .ref (ad 0)), (1, .int x1), (2, .int x2), (3, .int x3), (4, .int x4), (5, .int x5)] := hl
  exact w_X11_meshOf_0 C (g_RTl C.1.1 C.1.2.1 hr hlocks hA)  Z hl h
def r_X11_mesh : Room := { frames := 5, cells := 0, slots := 0, locals := 130 }
set_option maxRecDepth 20000 in
theorem w_X11_mesh_47 {p : Program} {l : Launch} {e : Env} {s : State} {m : MethodId} {args : Array Value} {below : List Frame} {meth : Method} {c : Code} {Q : State → Prop} {D : va_G} {kc : Nat → ClassId} {ad : Nat → Nat} {A : Nat → Prop} (C : Cx eM p s m args c cX11_mesh 6 RX11 D kc A) {R : Int64 × St} {σ : St} (hR : RTl 0 0 p l e r_X11_mesh s m args below meth c cX11_mesh tM kc ad D A Q R.1 R.2) {H : Heap} {locs : List Loc} {ls : Array Slot} (Z : Dy tM kc ad D A s.heap σ H locs) (hl : lv_has ls 6 []) (h : f_X11_mesh_47 σ = some R) : W p l e r_X11_mesh s m args below meth c H locs 0 0 Q (F0 m 47 ls []) := by
  have hx := C.1.1
  have hb := C.1.2.1
  unfold f_X11_mesh_47 at h
  refine lv_lconst (v := 0) hx hb dX11_mesh_47 (by decide) ?_
  obtain rfl := Option.some.inj h
  exact hR _ _ _ _ Z dX11_mesh_48
set_option maxRecDepth 20000 in
theorem w_X11_mesh_0 {p : Program} {l : Launch} {e : Env} {s : State} {m : MethodId} {args : Array Value} {below : List Frame} {meth : Method} {c : Code} {Q : State → Prop} {D : va_G} {kc : Nat → ClassId} {ad : Nat → Nat} {A : Nat → Prop} (C : Cx eM p s m args c cX11_mesh 6 RX11 D kc A) {R : Int64 × St} {x1 : Int32} {x2 : Int32} {x3 : Int32} {x4 : Int32} {x5 : Int32} {σ : St} (hR : RTl 0 0 p l e r_X11_mesh s m args below meth c cX11_mesh tM kc ad D A Q R.1 R.2) {H : Heap} {locs : List Loc} {ls : Array Slot} (Z : Dy tM kc ad D A s.heap σ H locs) (hl : lv_has ls 6 [(0, .ref (ad 0)), (1, .int x1), (2, .int x2), (3, .int x3), (4, .int x4), (5, .int x5)]) (h : f_X11_mesh x1 x2 x3 x4 x5 σ = some R) : W p l e r_X11_mesh s m args below meth c H locs 0 0 Q (F0 m 0 ls []) := by
  have hx := C.1.1
  have hb := C.1.2.1
  unfold f_X11_mesh at h
  refine lv_iload_n hx hb dX11_mesh_0 rfl (lv_at hl 1 rfl) ?_
  refine lv_iconst (v := 0) hx hb dX11_mesh_1 (by decide) ?_
  refine g_callSi eM_ok C Z (k_X11_isWhat x1 0 σ) lk_X11_474 hl (by decide) rfl (Nat.le_of_ble_eq_true rfl) (rest := []) rfl dX11_mesh_2 (fun H locs Z => ?_)
  refine lv_if_eq (tgt := 47) hx hb dX11_mesh_5 (by decide) (fun c5 => ?_) (fun c5 => ?_)
  · have h := ip h c5
    exact w_X11_mesh_47 C hR Z (lv_sub hl [] rfl) h
  · have h := im h c5
    refine lv_aload_n hx hb dX11_mesh_8 rfl (lv_at hl 0 rfl) ?_
    refine lv_iload_n hx hb dX11_mesh_9 rfl (lv_at hl 2 rfl) ?_
    refine g_callVi eM_ok C Z (k_X11_isShip x2 σ) lk_X11_264 (by decide) rfl rfl hl (by decide) rfl (Nat.le_of_ble_eq_true rfl) (rest := []) rfl dX11_mesh_10 (fun H locs Z => ?_)
    refine lv_if_eq (tgt := 47) hx hb dX11_mesh_13 (by decide) (fun c13 => ?_) (fun c13 => ?_)
    · have h := ip h c13
      exact w_X11_mesh_47 C hR Z (lv_sub hl [] rfl) h
    · have h := im h c13
      refine lv_iload_n hx hb dX11_mesh_16 rfl (lv_at hl 3 rfl) ?_
      refine lv_iload hx hb dX11_mesh_17 (lv_at hl 4 rfl) ?_
      refine g_callSi eM_ok C Z (k_X11_isCell x3 x4 σ) lk_X11_242 hl (by decide) rfl (Nat.le_of_ble_eq_true rfl) (rest := []) rfl dX11_mesh_19 (fun H locs Z => ?_)
      refine lv_if_eq (tgt := 47) hx hb dX11_mesh_22 (by decide) (fun c22 => ?_) (fun c22 => ?_)
      · have h := ip h c22
        exact w_X11_mesh_47 C hR Z (lv_sub hl [] rfl) h
      · have h := im h c22
        refine lv_iload hx hb dX11_mesh_25 (lv_at hl 5 rfl) ?_
        refine g_callSi eM_ok C Z (k_X11_isMinute x5 σ) lk_X11_267 hl (by decide) rfl (Nat.le_of_ble_eq_true rfl) (rest := []) rfl dX11_mesh_27 (fun H locs Z => ?_)
        refine lv_if_eq (tgt := 47) hx hb dX11_mesh_30 (by decide) (fun c30 => ?_) (fun c30 => ?_)
        · have h := ip h c30
          exact w_X11_mesh_47 C hR Z (lv_sub hl [] rfl) h
        · have h := im h c30
          refine lv_aload_n hx hb dX11_mesh_33 rfl (lv_at hl 0 rfl) ?_
          refine lv_iload_n hx hb dX11_mesh_34 rfl (lv_at hl 1 rfl) ?_
          refine lv_iload_n hx hb dX11_mesh_35 rfl (lv_at hl 2 rfl) ?_
          refine lv_iload_n hx hb dX11_mesh_36 rfl (lv_at hl 3 rfl) ?_
          refine lv_iload hx hb dX11_mesh_37 (lv_at hl 4 rfl) ?_
          refine lv_iload hx hb dX11_mesh_39 (lv_at hl 5 rfl) ?_
          obtain ⟨u3, hu3, h⟩ := ob h
          refine g_callVl eM_ok C Z (k_X11_meshOf hu3) lk_X11_481 (by decide) rfl rfl hl (by decide) rfl (Nat.le_of_ble_eq_true rfl) (rest := []) rfl dX11_mesh_41 (fun H locs Z => ?_)
          refine lv_goto (tgt := 48) hx hb dX11_mesh_44 (by decide) ?_
          obtain rfl := Option.some.inj h
          exact hR _ _ _ _ Z dX11_mesh_48
theorem k_X11_mesh {l : Launch} {kc : Nat → ClassId} {ad : Nat → Nat} {D : va_G} {x1 : Int32} {x2 : Int32} {x3 : Int32} {x4 : Int32} {x5 : Int32} {σ : St} {R : Int64 × St} (h : f_X11_mesh x1 x2 x3 x4 x5 σ = some R) : KC eM tM kc ad D l yX11_mesh (.code yX11_mesh cX11_mesh 6 (some .long)) r_X11_mesh [.ref (ad 0), .int x1, .int x2, .int x3, .int x4, .int x5] (some (.long R.1)) σ R.2 := by
  refine g_enter (by decide) (Nat.le_of_ble_eq_true rfl) ?_
  intro p e s m args below meth c A hA C hr hlocks Z ls hl
  have hl : lv_has ls 6 [(0, .ref (ad 0)), (1, .int x1), (2, .int x2), (3, .int x3), (4, .int x4), (5, .int x5)] := hl
  exact w_X11_mesh_0 C (g_RTl C.1.1 C.1.2.1 hr hlocks hA)  Z hl h
def r_X11_by : Room := { frames := 6, cells := 0, slots := 0, locals := 157 }
set_option maxRecDepth 20000 in
theorem w_X11_by_0 {p : Program} {l : Launch} {e : Env} {s : State} {m : MethodId} {args : Array Value} {below : List Frame} {meth : Method} {c : Code} {Q : State → Prop} {D : va_G} {kc : Nat → ClassId} {ad : Nat → Nat} {A : Nat → Prop} (C : Cx eM p s m args c cX11_by 8 RX11 D kc A) {R : Int32 × St} {x1 : Int32} {x2 : Int32} {x3 : Int32} {x4 : Int32} {x5 : Int32} {x6 : Int32} {σ : St} (hR : RTi 0 0 p l e r_X11_by s m args below meth c cX11_by tM kc ad D A Q .int R.1 R.2) {H : Heap} {locs : List Loc} {ls : Array Slot} (Z : Dy tM kc ad D A s.heap σ H locs) (hl : lv_has ls 8 [(0, .ref (ad 0)), (1, .int x1), (2, .int x2), (3, .int x3), (4, .int x4), (5, .int x5), (6, .int x6)]) (h : f_X11_by x1 x2 x3 x4 x5 x6 σ = some R) : W p l e r_X11_by s m args below meth c H locs 0 0 Q (F0 m 0 ls []) := by
  have hx := C.1.1
  have hb := C.1.2.1
  unfold f_X11_by at h
  refine lv_iload_n hx hb dX11_by_0 rfl (lv_at hl 1 rfl) ?_
  refine lv_iload_n hx hb dX11_by_1 rfl (lv_at hl 2 rfl) ?_
  refine g_callSi eM_ok C Z (k_X11_isWhat x1 x2 σ) lk_X11_474 hl (by decide) rfl (Nat.le_of_ble_eq_true rfl) (rest := []) rfl dX11_by_2 (fun H locs Z => ?_)
  refine lv_if_eq (tgt := 34) hx hb dX11_by_5 (by decide) (fun c5 => ?_) (fun c5 => ?_)
  · have h := ip h c5
    refine lv_iconst (v := (-1)) hx hb dX11_by_34 (by decide) ?_
    obtain rfl := Option.some.inj h
    exact hR _ _ _ _ _ Z dX11_by_35 rfl
  · have h := im h c5
    refine lv_aload_n hx hb dX11_by_8 rfl (lv_at hl 0 rfl) ?_
    refine lv_iload_n hx hb dX11_by_9 rfl (lv_at hl 3 rfl) ?_
    refine g_callVi eM_ok C Z (k_X11_isShip x3 σ) lk_X11_264 (by decide) rfl rfl hl (by decide) rfl (Nat.le_of_ble_eq_true rfl) (rest := []) rfl dX11_by_10 (fun H locs Z => ?_)
    refine lv_if_eq (tgt := 34) hx hb dX11_by_13 (by decide) (fun c13 => ?_) (fun c13 => ?_)
    · have h := ip h c13
      refine lv_iconst (v := (-1)) hx hb dX11_by_34 (by decide) ?_
      obtain rfl := Option.some.inj h
      exact hR _ _ _ _ _ Z dX11_by_35 rfl
    · have h := im h c13
      refine lv_iload hx hb dX11_by_16 (lv_at hl 4 rfl) ?_
      refine lv_iload hx hb dX11_by_18 (lv_at hl 5 rfl) ?_
      refine g_callSi eM_ok C Z (k_X11_isCell x4 x5 σ) lk_X11_242 hl (by decide) rfl (Nat.le_of_ble_eq_true rfl) (rest := []) rfl dX11_by_20 (fun H locs Z => ?_)
      refine lv_if_eq (tgt := 34) hx hb dX11_by_23 (by decide) (fun c23 => ?_) (fun c23 => ?_)
      · have h := ip h c23
        refine lv_iconst (v := (-1)) hx hb dX11_by_34 (by decide) ?_
        obtain rfl := Option.some.inj h
        exact hR _ _ _ _ _ Z dX11_by_35 rfl
      · have h := im h c23
        refine lv_iload hx hb dX11_by_26 (lv_at hl 6 rfl) ?_
        refine g_callSi eM_ok C Z (k_X11_isMinute x6 σ) lk_X11_267 hl (by decide) rfl (Nat.le_of_ble_eq_true rfl) (rest := []) rfl dX11_by_28 (fun H locs Z => ?_)
        refine lv_if_ne (tgt := 36) hx hb dX11_by_31 (by decide) (fun c31 => ?_) (fun c31 => ?_)
        · have h := im h c31
          refine lv_aload_n hx hb dX11_by_36 rfl (lv_at hl 0 rfl) ?_
          refine lv_iload_n hx hb dX11_by_37 rfl (lv_at hl 1 rfl) ?_
          refine lv_iload_n hx hb dX11_by_38 rfl (lv_at hl 2 rfl) ?_
          refine lv_iload_n hx hb dX11_by_39 rfl (lv_at hl 3 rfl) ?_
          refine lv_iload hx hb dX11_by_40 (lv_at hl 4 rfl) ?_
          refine lv_iload hx hb dX11_by_42 (lv_at hl 5 rfl) ?_
          refine lv_iload hx hb dX11_by_44 (lv_at hl 6 rfl) ?_
          obtain ⟨u3, hu3, h⟩ := ob h
          refine g_callVi eM_ok C Z (k_X11_mayBy hu3) lk_X11_468 (by decide) rfl rfl hl (by decide) rfl (Nat.le_of_ble_eq_true rfl) (rest := []) rfl dX11_by_46 (fun H locs Z => ?_)
          refine lv_istore (lv' := [(7, .int u3.1), (0, .ref (ad 0)), (1, .int x1), (2, .int x2), (3, .int x3), (4, .int x4), (5, .int x5), (6, .int x6)]) hx hb dX11_by_49 hl (by decide) rfl (fun ls hl => ?_)
          refine lv_iload hx hb dX11_by_51 (lv_at hl 0 rfl) ?_
          refine lv_if_ge (tgt := 60) hx hb dX11_by_53 (by decide) (fun c53 => ?_) (fun c53 => ?_)
          · have h := ip h c53
            refine lv_bipush (v := 16) hx hb dX11_by_60 (by decide) ?_
            refine lv_iload hx hb dX11_by_62 (lv_at hl 0 rfl) ?_
            refine lv_bipush (v := 12) hx hb dX11_by_64 (by decide) ?_
            refine lv_idiv hx hb dX11_by_66 (by decide) ?_
            refine lv_imul hx hb dX11_by_67 ?_
            refine lv_iload hx hb dX11_by_68 (lv_at hl 0 rfl) ?_
            refine lv_bipush (v := 12) hx hb dX11_by_70 (by decide) ?_
            refine lv_irem hx hb dX11_by_72 (by decide) ?_
            refine lv_iadd hx hb dX11_by_73 ?_
            obtain rfl := Option.some.inj h
            exact hR _ _ _ _ _ Z dX11_by_74 rfl
          · have h := im h c53
            refine lv_iconst (v := (-1)) hx hb dX11_by_56 (by decide) ?_
            refine lv_goto (tgt := 74) hx hb dX11_by_57 (by decide) ?_
            obtain rfl := Option.some.inj h
            exact hR _ _ _ _ _ Z dX11_by_74 rfl
        · have h := ip h c31
          refine lv_iconst (v := (-1)) hx hb dX11_by_34 (by decide) ?_
          obtain rfl := Option.some.inj h
          exact hR _ _ _ _ _ Z dX11_by_35 rfl
theorem k_X11_by {l : Launch} {kc : Nat → ClassId} {ad : Nat → Nat} {D : va_G} {x1 : Int32} {x2 : Int32} {x3 : Int32} {x4 : Int32} {x5 : Int32} {x6 : Int32} {σ : St} {R : Int32 × St} (h : f_X11_by x1 x2 x3 x4 x5 x6 σ = some R) : KC eM tM kc ad D l yX11_by (.code yX11_by cX11_by 8 (some .int)) r_X11_by [.ref (ad 0), .int x1, .int x2, .int x3, .int x4, .int x5, .int x6] (some (.int R.1)) σ R.2 := by
  refine g_enter (by decide) (Nat.le_of_ble_eq_true rfl) ?_
  intro p e s m args below meth c A hA C hr hlocks Z ls hl
  have hl : lv_has ls 8 [(0, .ref (ad 0)), (1, .int x1), (2, .int x2), (3, .int x3), (4, .int x4), (5, .int x5), (6, .int x6)] := hl
  exact w_X11_by_0 C (g_RTi C.1.1 C.1.2.1 hr hlocks hA)  Z hl h
