def r_X11_in : Room := { frames := 0, cells := 0, slots := 0, locals := 0 }
set_option maxRecDepth 20000 in
theorem w_X11_in_17 {p : Program} {l : Launch} {e : Env} {s : State} {m : MethodId} {args : Array Value} {below : List Frame} {meth : Method} {c : Code} {Q : State → Prop} {D : va_G} {kc : Nat → ClassId} {ad : Nat → Nat} {A : Nat → Prop} (C : Cx eM p s m args c cX11_in 6 RX11 D kc A) {R : Int32} {σ : St} (hR : RTi 0 0 p l e r_X11_in s m args below meth c cX11_in tM kc ad D A Q .boolean R σ) {H : Heap} {locs : List Loc} {ls : Array Slot} (Z : Dy tM kc ad D A s.heap σ H locs) (hl : lv_has ls 6 []) (h : f_X11_in_17 = R) : W p l e r_X11_in s m args below meth c H locs 0 0 Q (F0 m 17 ls []) := by
  have hx := C.1.1
  have hb := C.1.2.1
  unfold f_X11_in_17 at h
  refine lv_iconst (v := 0) hx hb dX11_in_17 (by decide) ?_
  subst h
  exact hR _ _ _ _ _ Z dX11_in_18 rfl
set_option maxRecDepth 20000 in
theorem w_X11_in_0 {p : Program} {l : Launch} {e : Env} {s : State} {m : MethodId} {args : Array Value} {below : List Frame} {meth : Method} {c : Code} {Q : State → Prop} {D : va_G} {kc : Nat → ClassId} {ad : Nat → Nat} {A : Nat → Prop} (C : Cx eM p s m args c cX11_in 6 RX11 D kc A) {R : Int32} {x0 : Int64} {x2 : Int64} {x4 : Int64} {σ : St} (hR : RTi 0 0 p l e r_X11_in s m args below meth c cX11_in tM kc ad D A Q .boolean R σ) {H : Heap} {locs : List Loc} {ls : Array Slot} (Z : Dy tM kc ad D A s.heap σ H locs) (hl : lv_has ls 6 [(0, .long x0), (2, .long x2), (4, .long x4)]) (h : f_X11_in x0 x2 x4 = R) : W p l e r_X11_in s m args below meth c H locs 0 0 Q (F0 m 0 ls []) := by
  have hx := C.1.1
  have hb := C.1.2.1
  unfold f_X11_in at h
  refine lv_lload_n hx hb dX11_in_0 rfl (lv_at hl 0 rfl) ?_
  refine lv_lload_n hx hb dX11_in_1 rfl (lv_at hl 1 rfl) ?_
  refine g_llt (tgt := 17) hx hb dX11_in_2 dX11_in_3 (by decide) (fun c3 => ?_) (fun c3 => ?_)
  · have h := ip h c3
    exact w_X11_in_17 C hR Z (lv_sub hl [] rfl) h
  · have h := im h c3
    refine lv_lload_n hx hb dX11_in_6 rfl (lv_at hl 0 rfl) ?_
    refine lv_lload hx hb dX11_in_7 (lv_at hl 2 rfl) ?_
    refine g_lgt (tgt := 17) hx hb dX11_in_9 dX11_in_10 (by decide) (fun c10 => ?_) (fun c10 => ?_)
    · have h := ip h c10
      exact w_X11_in_17 C hR Z (lv_sub hl [] rfl) h
    · have h := im h c10
      refine lv_iconst (v := 1) hx hb dX11_in_13 (by decide) ?_
      refine lv_goto (tgt := 18) hx hb dX11_in_14 (by decide) ?_
      subst h
      exact hR _ _ _ _ _ Z dX11_in_18 rfl
theorem k_X11_in {l : Launch} {kc : Nat → ClassId} {ad : Nat → Nat} {D : va_G} (x0 : Int64) (x2 : Int64) (x4 : Int64) (σ : St) : KC eM tM kc ad D l yX11_in (.code yX11_in cX11_in 6 (some .boolean)) r_X11_in [.long x0, .long x2, .long x4] (some (.int (f_X11_in x0 x2 x4))) σ σ := by
  refine g_enter (by decide) (Nat.le_of_ble_eq_true rfl) ?_
  intro p e s m args below meth c A hA C hr hlocks Z ls hl
  have hl : lv_has ls 6 [(0, .long x0), (2, .long x2), (4, .long x4)] := hl
  exact w_X11_in_0 C (g_RTi C.1.1 C.1.2.1 hr hlocks hA)  Z hl rfl
def r_X11_isMinute : Room := { frames := 0, cells := 0, slots := 0, locals := 0 }
set_option maxRecDepth 20000 in
theorem w_X11_isMinute_15 {p : Program} {l : Launch} {e : Env} {s : State} {m : MethodId} {args : Array Value} {below : List Frame} {meth : Method} {c : Code} {Q : State → Prop} {D : va_G} {kc : Nat → ClassId} {ad : Nat → Nat} {A : Nat → Prop} (C : Cx eM p s m args c cX11_isMinute 1 RX11 D kc A) {R : Int32} {σ : St} (hR : RTi 0 0 p l e r_X11_isMinute s m args below meth c cX11_isMinute tM kc ad D A Q .boolean R σ) {H : Heap} {locs : List Loc} {ls : Array Slot} (Z : Dy tM kc ad D A s.heap σ H locs) (hl : lv_has ls 1 []) (h : f_X11_isMinute_15 = R) : W p l e r_X11_isMinute s m args below meth c H locs 0 0 Q (F0 m 15 ls []) := by
  have hx := C.1.1
  have hb := C.1.2.1
  unfold f_X11_isMinute_15 at h
  refine lv_iconst (v := 0) hx hb dX11_isMinute_15 (by decide) ?_
  subst h
  exact hR _ _ _ _ _ Z dX11_isMinute_16 rfl
set_option maxRecDepth 20000 in
theorem w_X11_isMinute_0 {p : Program} {l : Launch} {e : Env} {s : State} {m : MethodId} {args : Array Value} {below : List Frame} {meth : Method} {c : Code} {Q : State → Prop} {D : va_G} {kc : Nat → ClassId} {ad : Nat → Nat} {A : Nat → Prop} (C : Cx eM p s m args c cX11_isMinute 1 RX11 D kc A) {R : Int32} {x0 : Int32} {σ : St} (hR : RTi 0 0 p l e r_X11_isMinute s m args below meth c cX11_isMinute tM kc ad D A Q .boolean R σ) {H : Heap} {locs : List Loc} {ls : Array Slot} (Z : Dy tM kc ad D A s.heap σ H locs) (hl : lv_has ls 1 [(0, .int x0)]) (h : f_X11_isMinute x0 = R) : W p l e r_X11_isMinute s m args below meth c H locs 0 0 Q (F0 m 0 ls []) := by
  have hx := C.1.1
  have hb := C.1.2.1
  unfold f_X11_isMinute at h
  refine lv_iload_n hx hb dX11_isMinute_0 rfl (lv_at hl 0 rfl) ?_
  refine lv_if_lt (tgt := 15) hx hb dX11_isMinute_1 (by decide) (fun c1 => ?_) (fun c1 => ?_)
  · have h := ip h c1
    exact w_X11_isMinute_15 C hR Z (lv_sub hl [] rfl) h
  · have h := im h c1
    refine lv_iload_n hx hb dX11_isMinute_4 rfl (lv_at hl 0 rfl) ?_
    refine lv_sipush (v := 9000) hx hb dX11_isMinute_5 (by decide) ?_
    refine lv_icmp_ge (tgt := 15) hx hb dX11_isMinute_8 (by decide) (fun c8 => ?_) (fun c8 => ?_)
    · have h := ip h c8
      exact w_X11_isMinute_15 C hR Z (lv_sub hl [] rfl) h
    · have h := im h c8
      refine lv_iconst (v := 1) hx hb dX11_isMinute_11 (by decide) ?_
      refine lv_goto (tgt := 16) hx hb dX11_isMinute_12 (by decide) ?_
      subst h
      exact hR _ _ _ _ _ Z dX11_isMinute_16 rfl
theorem k_X11_isMinute {l : Launch} {kc : Nat → ClassId} {ad : Nat → Nat} {D : va_G} (x0 : Int32) (σ : St) : KC eM tM kc ad D l yX11_isMinute (.code yX11_isMinute cX11_isMinute 1 (some .boolean)) r_X11_isMinute [.int x0] (some (.int (f_X11_isMinute x0))) σ σ := by
  refine g_enter (by decide) (Nat.le_of_ble_eq_true rfl) ?_
  intro p e s m args below meth c A hA C hr hlocks Z ls hl
  have hl : lv_has ls 1 [(0, .int x0)] := hl
  exact w_X11_isMinute_0 C (g_RTi C.1.1 C.1.2.1 hr hlocks hA)  Z hl rfl
def r_X11_isSide : Room := { frames := 0, cells := 0, slots := 0, locals := 0 }
set_option maxRecDepth 20000 in
theorem w_X11_isSide_9 {p : Program} {l : Launch} {e : Env} {s : State} {m : MethodId} {args : Array Value} {below : List Frame} {meth : Method} {c : Code} {Q : State → Prop} {D : va_G} {kc : Nat → ClassId} {ad : Nat → Nat} {A : Nat → Prop} (C : Cx eM p s m args c cX11_isSide 1 RX11 D kc A) {R : Int32} {σ : St} (hR : RTi 0 0 p l e r_X11_isSide s m args below meth c cX11_isSide tM kc ad D A Q .boolean R σ) {H : Heap} {locs : List Loc} {ls : Array Slot} (Z : Dy tM kc ad D A s.heap σ H locs) (hl : lv_has ls 1 []) (h : f_X11_isSide_9 = R) : W p l e r_X11_isSide s m args below meth c H locs 0 0 Q (F0 m 9 ls []) := by
  have hx := C.1.1
  have hb := C.1.2.1
  unfold f_X11_isSide_9 at h
  refine lv_iconst (v := 1) hx hb dX11_isSide_9 (by decide) ?_
  refine lv_goto (tgt := 14) hx hb dX11_isSide_10 (by decide) ?_
  subst h
  exact hR _ _ _ _ _ Z dX11_isSide_14 rfl
set_option maxRecDepth 20000 in
theorem w_X11_isSide_0 {p : Program} {l : Launch} {e : Env} {s : State} {m : MethodId} {args : Array Value} {below : List Frame} {meth : Method} {c : Code} {Q : State → Prop} {D : va_G} {kc : Nat → ClassId} {ad : Nat → Nat} {A : Nat → Prop} (C : Cx eM p s m args c cX11_isSide 1 RX11 D kc A) {R : Int32} {x0 : Int32} {σ : St} (hR : RTi 0 0 p l e r_X11_isSide s m args below meth c cX11_isSide tM kc ad D A Q .boolean R σ) {H : Heap} {locs : List Loc} {ls : Array Slot} (Z : Dy tM kc ad D A s.heap σ H locs) (hl : lv_has ls 1 [(0, .int x0)]) (h : f_X11_isSide x0 = R) : W p l e r_X11_isSide s m args below meth c H locs 0 0 Q (F0 m 0 ls []) := by
  have hx := C.1.1
  have hb := C.1.2.1
  unfold f_X11_isSide at h
  refine lv_iload_n hx hb dX11_isSide_0 rfl (lv_at hl 0 rfl) ?_
  refine lv_if_eq (tgt := 9) hx hb dX11_isSide_1 (by decide) (fun c1 => ?_) (fun c1 => ?_)
  · have h := ip h c1
    exact w_X11_isSide_9 C hR Z (lv_sub hl [] rfl) h
  · have h := im h c1
    refine lv_iload_n hx hb dX11_isSide_4 rfl (lv_at hl 0 rfl) ?_
    refine lv_iconst (v := 1) hx hb dX11_isSide_5 (by decide) ?_
    refine lv_icmp_ne (tgt := 13) hx hb dX11_isSide_6 (by decide) (fun c6 => ?_) (fun c6 => ?_)
    · have h := im h c6
      refine lv_iconst (v := 0) hx hb dX11_isSide_13 (by decide) ?_
      subst h
      exact hR _ _ _ _ _ Z dX11_isSide_14 rfl
    · have h := ip h c6
      exact w_X11_isSide_9 C hR Z (lv_sub hl [] rfl) h
theorem k_X11_isSide {l : Launch} {kc : Nat → ClassId} {ad : Nat → Nat} {D : va_G} (x0 : Int32) (σ : St) : KC eM tM kc ad D l yX11_isSide (.code yX11_isSide cX11_isSide 1 (some .boolean)) r_X11_isSide [.int x0] (some (.int (f_X11_isSide x0))) σ σ := by
  refine g_enter (by decide) (Nat.le_of_ble_eq_true rfl) ?_
  intro p e s m args below meth c A hA C hr hlocks Z ls hl
  have hl : lv_has ls 1 [(0, .int x0)] := hl
  exact w_X11_isSide_0 C (g_RTi C.1.1 C.1.2.1 hr hlocks hA)  Z hl rfl
def r_X11_isCell : Room := { frames := 1, cells := 0, slots := 0, locals := 25 }
set_option maxRecDepth 20000 in
theorem w_X11_isCell_28 {p : Program} {l : Launch} {e : Env} {s : State} {m : MethodId} {args : Array Value} {below : List Frame} {meth : Method} {c : Code} {Q : State → Prop} {D : va_G} {kc : Nat → ClassId} {ad : Nat → Nat} {A : Nat → Prop} (C : Cx eM p s m args c cX11_isCell 2 RX11 D kc A) {R : Int32} {σ : St} (hR : RTi 0 0 p l e r_X11_isCell s m args below meth c cX11_isCell tM kc ad D A Q .boolean R σ) {H : Heap} {locs : List Loc} {ls : Array Slot} (Z : Dy tM kc ad D A s.heap σ H locs) (hl : lv_has ls 2 []) (h : f_X11_isCell_28 = R) : W p l e r_X11_isCell s m args below meth c H locs 0 0 Q (F0 m 28 ls []) := by
  have hx := C.1.1
  have hb := C.1.2.1
  unfold f_X11_isCell_28 at h
  refine lv_iconst (v := 0) hx hb dX11_isCell_28 (by decide) ?_
  subst h
  exact hR _ _ _ _ _ Z dX11_isCell_29 rfl
set_option maxRecDepth 20000 in
theorem w_X11_isCell_0 {p : Program} {l : Launch} {e : Env} {s : State} {m : MethodId} {args : Array Value} {below : List Frame} {meth : Method} {c : Code} {Q : State → Prop} {D : va_G} {kc : Nat → ClassId} {ad : Nat → Nat} {A : Nat → Prop} (C : Cx eM p s m args c cX11_isCell 2 RX11 D kc A) {R : Int32} {x0 : Int32} {x1 : Int32} {σ : St} (hR : RTi 0 0 p l e r_X11_isCell s m args below meth c cX11_isCell tM kc ad D A Q .boolean R σ) {H : Heap} {locs : List Loc} {ls : Array Slot} (Z : Dy tM kc ad D A s.heap σ H locs) (hl : lv_has ls 2 [(0, .int x0), (1, .int x1)]) (h : f_X11_isCell x0 x1 = R) : W p l e r_X11_isCell s m args below meth c H locs 0 0 Q (F0 m 0 ls []) := by
  have hx := C.1.1
  have hb := C.1.2.1
  unfold f_X11_isCell at h
  refine lv_iload_n hx hb dX11_isCell_0 rfl (lv_at hl 0 rfl) ?_
  refine lv_i2l (v := x0.toInt64) hx hb dX11_isCell_1 rfl ?_
  refine lv_lconst (v := 0) hx hb dX11_isCell_2 (by decide) ?_
  refine lv_ldc2 (v := 23) hx hb C.1.2.2.2.1 (C.1.2.2.2.2 _ wDL_X11_231) dX11_isCell_3 ?_
  refine g_callSi eM_ok C Z (k_X11_in x0.toInt64 0 23 σ) lk_X11_233 hl (by decide) rfl (Nat.le_of_ble_eq_true rfl) (rest := []) rfl dX11_isCell_6 (fun H locs Z => ?_)
  refine lv_if_eq (tgt := 28) hx hb dX11_isCell_9 (by decide) (fun c9 => ?_) (fun c9 => ?_)
  · have h := ip h c9
    exact w_X11_isCell_28 C hR Z (lv_sub hl [] rfl) h
  · have h := im h c9
    refine lv_iload_n hx hb dX11_isCell_12 rfl (lv_at hl 1 rfl) ?_
    refine lv_i2l (v := x1.toInt64) hx hb dX11_isCell_13 rfl ?_
    refine lv_lconst (v := 0) hx hb dX11_isCell_14 (by decide) ?_
    refine lv_ldc2 (v := 23) hx hb C.1.2.2.2.1 (C.1.2.2.2.2 _ wDL_X11_231) dX11_isCell_15 ?_
    refine g_callSi eM_ok C Z (k_X11_in x1.toInt64 0 23 σ) lk_X11_233 hl (by decide) rfl (Nat.le_of_ble_eq_true rfl) (rest := []) rfl dX11_isCell_18 (fun H locs Z => ?_)
    refine lv_if_eq (tgt := 28) hx hb dX11_isCell_21 (by decide) (fun c21 => ?_) (fun c21 => ?_)
    · have h := ip h c21
      exact w_X11_isCell_28 C hR Z (lv_sub hl [] rfl) h
    · have h := im h c21
      refine lv_iconst (v := 1) hx hb dX11_isCell_24 (by decide) ?_
      refine lv_goto (tgt := 29) hx hb dX11_isCell_25 (by decide) ?_
      subst h
      exact hR _ _ _ _ _ Z dX11_isCell_29 rfl
theorem k_X11_isCell {l : Launch} {kc : Nat → ClassId} {ad : Nat → Nat} {D : va_G} (x0 : Int32) (x1 : Int32) (σ : St) : KC eM tM kc ad D l yX11_isCell (.code yX11_isCell cX11_isCell 2 (some .boolean)) r_X11_isCell [.int x0, .int x1] (some (.int (f_X11_isCell x0 x1))) σ σ := by
  refine g_enter (by decide) (Nat.le_of_ble_eq_true rfl) ?_
  intro p e s m args below meth c A hA C hr hlocks Z ls hl
  have hl : lv_has ls 2 [(0, .int x0), (1, .int x1)] := hl
  exact w_X11_isCell_0 C (g_RTi C.1.1 C.1.2.1 hr hlocks hA)  Z hl rfl
def r_X11_without : Room := { frames := 0, cells := 0, slots := 0, locals := 0 }
set_option maxRecDepth 20000 in
theorem w_X11_without_0 {p : Program} {l : Launch} {e : Env} {s : State} {m : MethodId} {args : Array Value} {below : List Frame} {meth : Method} {c : Code} {Q : State → Prop} {D : va_G} {kc : Nat → ClassId} {ad : Nat → Nat} {A : Nat → Prop} (C : Cx eM p s m args c cX11_without 1 RX11 D kc A) {R : Int32} {x0 : Int32} {σ : St} (hR : RTi 0 0 p l e r_X11_without s m args below meth c cX11_without tM kc ad D A Q .int R σ) {H : Heap} {locs : List Loc} {ls : Array Slot} (Z : Dy tM kc ad D A s.heap σ H locs) (hl : lv_has ls 1 [(0, .int x0)]) (h : f_X11_without x0 = R) : W p l e r_X11_without s m args below meth c H locs 0 0 Q (F0 m 0 ls []) := by
  have hx := C.1.1
  have hb := C.1.2.1
  unfold f_X11_without at h
  refine lv_iload_n hx hb dX11_without_0 rfl (lv_at hl 0 rfl) ?_
  obtain ⟨v1, ev1, h⟩ := lb h
  have hj : W p l e r_X11_without s m args below meth c H locs 0 0 Q (F0 m 10 ls [.int v1]) := by
    subst h
    exact hR _ _ _ _ _ Z dX11_without_10 rfl
  refine lv_if_ge (tgt := 9) hx hb dX11_without_1 (by decide) (fun c1 => ?_) (fun c1 => ?_)
  · rw [if_pos c1] at ev1
    refine lv_iload_n hx hb dX11_without_9 rfl (lv_at hl 0 rfl) ?_
    exact tn_i ev1 hj
  · rw [if_neg c1] at ev1
    refine lv_iload_n hx hb dX11_without_4 rfl (lv_at hl 0 rfl) ?_
    refine lv_ineg hx hb dX11_without_5 ?_
    refine lv_goto (tgt := 10) hx hb dX11_without_6 (by decide) ?_
    exact tn_i ev1 hj
theorem k_X11_without {l : Launch} {kc : Nat → ClassId} {ad : Nat → Nat} {D : va_G} (x0 : Int32) (σ : St) : KC eM tM kc ad D l yX11_without (.code yX11_without cX11_without 1 (some .int)) r_X11_without [.int x0] (some (.int (f_X11_without x0))) σ σ := by
  refine g_enter (by decide) (Nat.le_of_ble_eq_true rfl) ?_
  intro p e s m args below meth c A hA C hr hlocks Z ls hl
  have hl : lv_has ls 1 [(0, .int x0)] := hl
  exact w_X11_without_0 C (g_RTi C.1.1 C.1.2.1 hr hlocks hA)  Z hl rfl
def r_X11_clock : Room := { frames := 1, cells := 0, slots := 0, locals := 25 }
set_option maxRecDepth 20000 in
theorem w_X11_clock_0 {p : Program} {l : Launch} {e : Env} {s : State} {m : MethodId} {args : Array Value} {below : List Frame} {meth : Method} {c : Code} {Q : State → Prop} {D : va_G} {kc : Nat → ClassId} {ad : Nat → Nat} {A : Nat → Prop} (C : Cx eM p s m args c cX11_clock 2 RX11 D kc A) {R : Int32 × St} {x1 : Int32} {σ : St} (hR : RTi 0 0 p l e r_X11_clock s m args below meth c cX11_clock tM kc ad D A Q .boolean R.1 R.2) {H : Heap} {locs : List Loc} {ls : Array Slot} (Z : Dy tM kc ad D A s.heap σ H locs) (hl : lv_has ls 2 [(0, .ref (ad 0)), (1, .int x1)]) (h : f_X11_clock x1 σ = some R) : W p l e r_X11_clock s m args below meth c H locs 0 0 Q (F0 m 0 ls []) := by
  have hx := C.1.1
  have hb := C.1.2.1
  unfold f_X11_clock at h
  refine lv_iload_n hx hb dX11_clock_0 rfl (lv_at hl 1 rfl) ?_
  refine lv_i2l (v := x1.toInt64) hx hb dX11_clock_1 rfl ?_
  refine lv_aload_n hx hb dX11_clock_2 rfl (lv_at hl 0 rfl) ?_
  refine rg_X11_237 C Z dX11_clock_3 ?_
  refine lv_i2l (v := (gF σ 0).toInt64) hx hb dX11_clock_6 rfl ?_
  refine lv_ldc2 (v := 8999) hx hb C.1.2.2.2.1 (C.1.2.2.2.2 _ wDL_X11_240) dX11_clock_7 ?_
  refine g_callSi eM_ok C Z (k_X11_in x1.toInt64 ((gF σ 0).toInt64) 8999 σ) lk_X11_233 hl (by decide) rfl (Nat.le_of_ble_eq_true rfl) (rest := []) rfl dX11_clock_10 (fun H locs Z => ?_)
  refine lv_if_ne (tgt := 18) hx hb dX11_clock_13 (by decide) (fun c13 => ?_) (fun c13 => ?_)
  · have h := im h c13
    refine lv_aload_n hx hb dX11_clock_18 rfl (lv_at hl 0 rfl) ?_
    refine lv_iload_n hx hb dX11_clock_19 rfl (lv_at hl 1 rfl) ?_
    obtain ⟨σ3, eσ3, h⟩ := lb h
    refine rp_X11_237 C Z eσ3 dX11_clock_20 (fun H locs Z => ?_)
    refine lv_iconst (v := 1) hx hb dX11_clock_23 (by decide) ?_
    obtain rfl := Option.some.inj h
    exact hR _ _ _ _ _ Z dX11_clock_24 rfl
  · have h := ip h c13
    refine lv_iconst (v := 0) hx hb dX11_clock_16 (by decide) ?_
    obtain rfl := Option.some.inj h
    exact hR _ _ _ _ _ Z dX11_clock_17 rfl
theorem k_X11_clock {l : Launch} {kc : Nat → ClassId} {ad : Nat → Nat} {D : va_G} {x1 : Int32} {σ : St} {R : Int32 × St} (h : f_X11_clock x1 σ = some R) : KC eM tM kc ad D l yX11_clock (.code yX11_clock cX11_clock 2 (some .boolean)) r_X11_clock [.ref (ad 0), .int x1] (some (.int R.1)) σ R.2 := by
  refine g_enter (by decide) (Nat.le_of_ble_eq_true rfl) ?_
  intro p e s m args below meth c A hA C hr hlocks Z ls hl
  have hl : lv_has ls 2 [(0, .ref (ad 0)), (1, .int x1)] := hl
  exact w_X11_clock_0 C (g_RTi C.1.1 C.1.2.1 hr hlocks hA)  Z hl h
def r_X11_depth : Room := { frames := 2, cells := 0, slots := 0, locals := 46 }
set_option maxRecDepth 20000 in
theorem w_X11_depth_0 {p : Program} {l : Launch} {e : Env} {s : State} {m : MethodId} {args : Array Value} {below : List Frame} {meth : Method} {c : Code} {Q : State → Prop} {D : va_G} {kc : Nat → ClassId} {ad : Nat → Nat} {A : Nat → Prop} (C : Cx eM p s m args c cX11_depth 5 RX11 D kc A) {R : Int32 × St} {x1 : Int32} {x2 : Int32} {x3 : Int32} {σ : St} (hR : RTi 0 0 p l e r_X11_depth s m args below meth c cX11_depth tM kc ad D A Q .int R.1 R.2) {H : Heap} {locs : List Loc} {ls : Array Slot} (Z : Dy tM kc ad D A s.heap σ H locs) (hl : lv_has ls 5 [(0, .ref (ad 0)), (1, .int x1), (2, .int x2), (3, .int x3)]) (h : f_X11_depth x1 x2 x3 σ = some R) : W p l e r_X11_depth s m args below meth c H locs 0 0 Q (F0 m 0 ls []) := by
  have hx := C.1.1
  have hb := C.1.2.1
  unfold f_X11_depth at h
  refine lv_iload_n hx hb dX11_depth_0 rfl (lv_at hl 1 rfl) ?_
  refine lv_iload_n hx hb dX11_depth_1 rfl (lv_at hl 2 rfl) ?_
  refine g_callSi eM_ok C Z (k_X11_isCell x1 x2 σ) lk_X11_242 hl (by decide) rfl (Nat.le_of_ble_eq_true rfl) (rest := []) rfl dX11_depth_2 (fun H locs Z => ?_)
  refine lv_if_eq (tgt := 20) hx hb dX11_depth_5 (by decide) (fun c5 => ?_) (fun c5 => ?_)
  · have h := ip h c5
    refine lv_iconst (v := (-1)) hx hb dX11_depth_20 (by decide) ?_
    obtain rfl := Option.some.inj h
    exact hR _ _ _ _ _ Z dX11_depth_21 rfl
  · have h := im h c5
    refine lv_iload_n hx hb dX11_depth_8 rfl (lv_at hl 3 rfl) ?_
    refine lv_i2l (v := x3.toInt64) hx hb dX11_depth_9 rfl ?_
    refine lv_lconst (v := 0) hx hb dX11_depth_10 (by decide) ?_
    refine lv_ldc2 (v := 999) hx hb C.1.2.2.2.1 (C.1.2.2.2.2 _ wDL_X11_246) dX11_depth_11 ?_
    refine g_callSi eM_ok C Z (k_X11_in x3.toInt64 0 999 σ) lk_X11_233 hl (by decide) rfl (Nat.le_of_ble_eq_true rfl) (rest := []) rfl dX11_depth_14 (fun H locs Z => ?_)
    refine lv_if_ne (tgt := 22) hx hb dX11_depth_17 (by decide) (fun c17 => ?_) (fun c17 => ?_)
    · have h := im h c17
      refine lv_aload_n hx hb dX11_depth_22 rfl (lv_at hl 0 rfl) ?_
      refine rg_X11_7 C Z dX11_depth_23 ?_
      refine lv_bipush (v := 24) hx hb dX11_depth_26 (by decide) ?_
      refine lv_iload_n hx hb dX11_depth_28 rfl (lv_at hl 2 rfl) ?_
      refine lv_imul hx hb dX11_depth_29 ?_
      refine lv_iload_n hx hb dX11_depth_30 rfl (lv_at hl 1 rfl) ?_
      refine lv_iadd hx hb dX11_depth_31 ?_
      obtain ⟨v5, hv5, h⟩ := ob h
      refine g_iald C Z iaM1 hv5 dX11_depth_32 ?_
      refine lv_istore (lv' := [(4, .int v5), (0, .ref (ad 0)), (1, .int x1), (2, .int x2), (3, .int x3)]) hx hb dX11_depth_33 hl (by decide) rfl (fun ls hl => ?_)
      refine lv_aload_n hx hb dX11_depth_35 rfl (lv_at hl 1 rfl) ?_
      refine rg_X11_7 C Z dX11_depth_36 ?_
      refine lv_bipush (v := 24) hx hb dX11_depth_39 (by decide) ?_
      refine lv_iload_n hx hb dX11_depth_41 rfl (lv_at hl 3 rfl) ?_
      refine lv_imul hx hb dX11_depth_42 ?_
      refine lv_iload_n hx hb dX11_depth_43 rfl (lv_at hl 2 rfl) ?_
      refine lv_iadd hx hb dX11_depth_44 ?_
      refine lv_iload_n hx hb dX11_depth_45 rfl (lv_at hl 4 rfl) ?_
      obtain ⟨σ6, hσ6, h⟩ := ob h
      refine g_iast C Z iaM1 hσ6 dX11_depth_46 (fun H locs Z => ?_)
      refine lv_iload hx hb dX11_depth_47 (lv_at hl 0 rfl) ?_
      obtain rfl := Option.some.inj h
      exact hR _ _ _ _ _ Z dX11_depth_49 rfl
    · have h := ip h c17
      refine lv_iconst (v := (-1)) hx hb dX11_depth_20 (by decide) ?_
      obtain rfl := Option.some.inj h
      exact hR _ _ _ _ _ Z dX11_depth_21 rfl
theorem k_X11_depth {l : Launch} {kc : Nat → ClassId} {ad : Nat → Nat} {D : va_G} {x1 : Int32} {x2 : Int32} {x3 : Int32} {σ : St} {R : Int32 × St} (h : f_X11_depth x1 x2 x3 σ = some R) : KC eM tM kc ad D l yX11_depth (.code yX11_depth cX11_depth 5 (some .int)) r_X11_depth [.ref (ad 0), .int x1, .int x2, .int x3] (some (.int R.1)) σ R.2 := by
  refine g_enter (by decide) (Nat.le_of_ble_eq_true rfl) ?_
  intro p e s m args below meth c A hA C hr hlocks Z ls hl
  have hl : lv_has ls 5 [(0, .ref (ad 0)), (1, .int x1), (2, .int x2), (3, .int x3)] := hl
  exact w_X11_depth_0 C (g_RTi C.1.1 C.1.2.1 hr hlocks hA)  Z hl h
def r_X11_isShip : Room := { frames := 0, cells := 0, slots := 0, locals := 0 }
set_option maxRecDepth 20000 in
theorem w_X11_isShip_16 {p : Program} {l : Launch} {e : Env} {s : State} {m : MethodId} {args : Array Value} {below : List Frame} {meth : Method} {c : Code} {Q : State → Prop} {D : va_G} {kc : Nat → ClassId} {ad : Nat → Nat} {A : Nat → Prop} (C : Cx eM p s m args c cX11_isShip 2 RX11 D kc A) {R : Int32} {σ : St} (hR : RTi 0 0 p l e r_X11_isShip s m args below meth c cX11_isShip tM kc ad D A Q .boolean R σ) {H : Heap} {locs : List Loc} {ls : Array Slot} (Z : Dy tM kc ad D A s.heap σ H locs) (hl : lv_has ls 2 []) (h : f_X11_isShip_16 σ = R) : W p l e r_X11_isShip s m args below meth c H locs 0 0 Q (F0 m 16 ls []) := by
  have hx := C.1.1
  have hb := C.1.2.1
  unfold f_X11_isShip_16 at h
  refine lv_iconst (v := 0) hx hb dX11_isShip_16 (by decide) ?_
  subst h
  exact hR _ _ _ _ _ Z dX11_isShip_17 rfl
set_option maxRecDepth 20000 in
theorem w_X11_isShip_0 {p : Program} {l : Launch} {e : Env} {s : State} {m : MethodId} {args : Array Value} {below : List Frame} {meth : Method} {c : Code} {Q : State → Prop} {D : va_G} {kc : Nat → ClassId} {ad : Nat → Nat} {A : Nat → Prop} (C : Cx eM p s m args c cX11_isShip 2 RX11 D kc A) {R : Int32} {x1 : Int32} {σ : St} (hR : RTi 0 0 p l e r_X11_isShip s m args below meth c cX11_isShip tM kc ad D A Q .boolean R σ) {H : Heap} {locs : List Loc} {ls : Array Slot} (Z : Dy tM kc ad D A s.heap σ H locs) (hl : lv_has ls 2 [(0, .ref (ad 0)), (1, .int x1)]) (h : f_X11_isShip x1 σ = R) : W p l e r_X11_isShip s m args below meth c H locs 0 0 Q (F0 m 0 ls []) := by
  have hx := C.1.1
  have hb := C.1.2.1
  unfold f_X11_isShip at h
  refine lv_iload_n hx hb dX11_isShip_0 rfl (lv_at hl 1 rfl) ?_
  refine lv_if_lt (tgt := 16) hx hb dX11_isShip_1 (by decide) (fun c1 => ?_) (fun c1 => ?_)
  · have h := ip h c1
    exact w_X11_isShip_16 C hR Z (lv_sub hl [] rfl) h
  · have h := im h c1
    refine lv_iload_n hx hb dX11_isShip_4 rfl (lv_at hl 1 rfl) ?_
    refine lv_aload_n hx hb dX11_isShip_5 rfl (lv_at hl 0 rfl) ?_
    refine rg_X11_248 C Z dX11_isShip_6 ?_
    refine lv_icmp_ge (tgt := 16) hx hb dX11_isShip_9 (by decide) (fun c9 => ?_) (fun c9 => ?_)
    · have h := ip h c9
      exact w_X11_isShip_16 C hR Z (lv_sub hl [] rfl) h
    · have h := im h c9
      refine lv_iconst (v := 1) hx hb dX11_isShip_12 (by decide) ?_
      refine lv_goto (tgt := 17) hx hb dX11_isShip_13 (by decide) ?_
      subst h
      exact hR _ _ _ _ _ Z dX11_isShip_17 rfl
theorem k_X11_isShip {l : Launch} {kc : Nat → ClassId} {ad : Nat → Nat} {D : va_G} (x1 : Int32) (σ : St) : KC eM tM kc ad D l yX11_isShip (.code yX11_isShip cX11_isShip 2 (some .boolean)) r_X11_isShip [.ref (ad 0), .int x1] (some (.int (f_X11_isShip x1 σ))) σ σ := by
  refine g_enter (by decide) (Nat.le_of_ble_eq_true rfl) ?_
  intro p e s m args below meth c A hA C hr hlocks Z ls hl
  have hl : lv_has ls 2 [(0, .ref (ad 0)), (1, .int x1)] := hl
  exact w_X11_isShip_0 C (g_RTi C.1.1 C.1.2.1 hr hlocks hA)  Z hl rfl
def r_X11_ship : Room := { frames := 1, cells := 0, slots := 0, locals := 25 }
set_option maxRecDepth 20000 in
theorem w_X11_ship_0 {p : Program} {l : Launch} {e : Env} {s : State} {m : MethodId} {args : Array Value} {below : List Frame} {meth : Method} {c : Code} {Q : State → Prop} {D : va_G} {kc : Nat → ClassId} {ad : Nat → Nat} {A : Nat → Prop} (C : Cx eM p s m args c cX11_ship 5 RX11 D kc A) {R : Int32 × St} {x1 : Int32} {x2 : Int32} {x3 : Int32} {x4 : Int32} {σ : St} (hR : RTi 0 0 p l e r_X11_ship s m args below meth c cX11_ship tM kc ad D A Q .int R.1 R.2) {H : Heap} {locs : List Loc} {ls : Array Slot} (Z : Dy tM kc ad D A s.heap σ H locs) (hl : lv_has ls 5 [(0, .ref (ad 0)), (1, .int x1), (2, .int x2), (3, .int x3), (4, .int x4)]) (h : f_X11_ship x1 x2 x3 x4 σ = some R) : W p l e r_X11_ship s m args below meth c H locs 0 0 Q (F0 m 0 ls []) := by
  have hx := C.1.1
  have hb := C.1.2.1
  unfold f_X11_ship at h
  refine lv_aload_n hx hb dX11_ship_0 rfl (lv_at hl 0 rfl) ?_
  refine rg_X11_248 C Z dX11_ship_1 ?_
  refine lv_bipush (v := 40) hx hb dX11_ship_4 (by decide) ?_
  refine lv_icmp_eq (tgt := 53) hx hb dX11_ship_6 (by decide) (fun c6 => ?_) (fun c6 => ?_)
  · have h := ip h c6
    refine lv_iconst (v := (-1)) hx hb dX11_ship_53 (by decide) ?_
    obtain rfl := Option.some.inj h
    exact hR _ _ _ _ _ Z dX11_ship_54 rfl
  · have h := im h c6
    refine lv_iload_n hx hb dX11_ship_9 rfl (lv_at hl 1 rfl) ?_
    refine g_callSi eM_ok C Z (k_X11_isSide x1 σ) lk_X11_251 hl (by decide) rfl (Nat.le_of_ble_eq_true rfl) (rest := []) rfl dX11_ship_10 (fun H locs Z => ?_)
    refine lv_if_eq (tgt := 53) hx hb dX11_ship_13 (by decide) (fun c13 => ?_) (fun c13 => ?_)
    · have h := ip h c13
      refine lv_iconst (v := (-1)) hx hb dX11_ship_53 (by decide) ?_
      obtain rfl := Option.some.inj h
      exact hR _ _ _ _ _ Z dX11_ship_54 rfl
    · have h := im h c13
      refine lv_iload_n hx hb dX11_ship_16 rfl (lv_at hl 2 rfl) ?_
      refine lv_i2l (v := x2.toInt64) hx hb dX11_ship_17 rfl ?_
      refine lv_lconst (v := 0) hx hb dX11_ship_18 (by decide) ?_
      refine lv_ldc2 (v := 2) hx hb C.1.2.2.2.1 (C.1.2.2.2.2 _ wDL_X11_255) dX11_ship_19 ?_
      refine g_callSi eM_ok C Z (k_X11_in x2.toInt64 0 2 σ) lk_X11_233 hl (by decide) rfl (Nat.le_of_ble_eq_true rfl) (rest := []) rfl dX11_ship_22 (fun H locs Z => ?_)
      refine lv_if_eq (tgt := 53) hx hb dX11_ship_25 (by decide) (fun c25 => ?_) (fun c25 => ?_)
      · have h := ip h c25
        refine lv_iconst (v := (-1)) hx hb dX11_ship_53 (by decide) ?_
        obtain rfl := Option.some.inj h
        exact hR _ _ _ _ _ Z dX11_ship_54 rfl
      · have h := im h c25
        refine lv_iload_n hx hb dX11_ship_28 rfl (lv_at hl 3 rfl) ?_
        refine lv_i2l (v := x3.toInt64) hx hb dX11_ship_29 rfl ?_
        refine lv_lconst (v := 1) hx hb dX11_ship_30 (by decide) ?_
        refine lv_ldc2 (v := 3) hx hb C.1.2.2.2.1 (C.1.2.2.2.2 _ wDL_X11_257) dX11_ship_31 ?_
        refine g_callSi eM_ok C Z (k_X11_in x3.toInt64 1 3 σ) lk_X11_233 hl (by decide) rfl (Nat.le_of_ble_eq_true rfl) (rest := []) rfl dX11_ship_34 (fun H locs Z => ?_)
        refine lv_if_eq (tgt := 53) hx hb dX11_ship_37 (by decide) (fun c37 => ?_) (fun c37 => ?_)
        · have h := ip h c37
          refine lv_iconst (v := (-1)) hx hb dX11_ship_53 (by decide) ?_
          obtain rfl := Option.some.inj h
          exact hR _ _ _ _ _ Z dX11_ship_54 rfl
        · have h := im h c37
          refine lv_iload hx hb dX11_ship_40 (lv_at hl 4 rfl) ?_
          refine lv_i2l (v := x4.toInt64) hx hb dX11_ship_42 rfl ?_
          refine lv_lconst (v := 0) hx hb dX11_ship_43 (by decide) ?_
          refine lv_ldc2 (v := 199) hx hb C.1.2.2.2.1 (C.1.2.2.2.2 _ wDL_X11_259) dX11_ship_44 ?_
          refine g_callSi eM_ok C Z (k_X11_in x4.toInt64 0 199 σ) lk_X11_233 hl (by decide) rfl (Nat.le_of_ble_eq_true rfl) (rest := []) rfl dX11_ship_47 (fun H locs Z => ?_)
          refine lv_if_ne (tgt := 55) hx hb dX11_ship_50 (by decide) (fun c50 => ?_) (fun c50 => ?_)
          · have h := im h c50
            refine lv_aload_n hx hb dX11_ship_55 rfl (lv_at hl 0 rfl) ?_
            refine rg_X11_13 C Z dX11_ship_56 ?_
            refine lv_aload_n hx hb dX11_ship_59 rfl (lv_at hl 0 rfl) ?_
            refine rg_X11_248 C Z dX11_ship_60 ?_
            refine lv_iload_n hx hb dX11_ship_63 rfl (lv_at hl 1 rfl) ?_
            obtain ⟨σ11, hσ11, h⟩ := ob h
            refine g_iast C Z iaM2 hσ11 dX11_ship_64 (fun H locs Z => ?_)
            refine lv_aload_n hx hb dX11_ship_65 rfl (lv_at hl 0 rfl) ?_
            refine rg_X11_16 C Z dX11_ship_66 ?_
            refine lv_aload_n hx hb dX11_ship_69 rfl (lv_at hl 0 rfl) ?_
            refine rg_X11_248 C Z dX11_ship_70 ?_
            refine lv_iload_n hx hb dX11_ship_73 rfl (lv_at hl 2 rfl) ?_
            obtain ⟨σ12, hσ12, h⟩ := ob h
            refine g_iast C Z iaM3 hσ12 dX11_ship_74 (fun H locs Z => ?_)
            refine lv_aload_n hx hb dX11_ship_75 rfl (lv_at hl 0 rfl) ?_
            refine rg_X11_19 C Z dX11_ship_76 ?_
            refine lv_aload_n hx hb dX11_ship_79 rfl (lv_at hl 0 rfl) ?_
            refine rg_X11_248 C Z dX11_ship_80 ?_
            refine lv_iload_n hx hb dX11_ship_83 rfl (lv_at hl 3 rfl) ?_
            obtain ⟨σ13, hσ13, h⟩ := ob h
            refine g_iast C Z iaM4 hσ13 dX11_ship_84 (fun H locs Z => ?_)
            refine lv_aload_n hx hb dX11_ship_85 rfl (lv_at hl 0 rfl) ?_
            refine rg_X11_22 C Z dX11_ship_86 ?_
            refine lv_aload_n hx hb dX11_ship_89 rfl (lv_at hl 0 rfl) ?_
            refine rg_X11_248 C Z dX11_ship_90 ?_
            refine lv_iload hx hb dX11_ship_93 (lv_at hl 4 rfl) ?_
            obtain ⟨σ14, hσ14, h⟩ := ob h
            refine g_iast C Z iaM5 hσ14 dX11_ship_95 (fun H locs Z => ?_)
            refine lv_aload_n hx hb dX11_ship_96 rfl (lv_at hl 0 rfl) ?_
            refine lv_dup hx hb dX11_ship_97 rfl ?_
            refine rg_X11_248 C Z dX11_ship_98 ?_
            refine lv_iconst (v := 1) hx hb dX11_ship_101 (by decide) ?_
            refine lv_iadd hx hb dX11_ship_102 ?_
            obtain ⟨σ15, eσ15, h⟩ := lb h
            refine rp_X11_248 C Z eσ15 dX11_ship_103 (fun H locs Z => ?_)
            refine lv_aload_n hx hb dX11_ship_106 rfl (lv_at hl 0 rfl) ?_
            refine rg_X11_248 C Z dX11_ship_107 ?_
            refine lv_iconst (v := 1) hx hb dX11_ship_110 (by decide) ?_
            refine lv_isub hx hb dX11_ship_111 ?_
            obtain rfl := Option.some.inj h
            exact hR _ _ _ _ _ Z dX11_ship_112 rfl
          · have h := ip h c50
            refine lv_iconst (v := (-1)) hx hb dX11_ship_53 (by decide) ?_
            obtain rfl := Option.some.inj h
            exact hR _ _ _ _ _ Z dX11_ship_54 rfl
theorem k_X11_ship {l : Launch} {kc : Nat → ClassId} {ad : Nat → Nat} {D : va_G} {x1 : Int32} {x2 : Int32} {x3 : Int32} {x4 : Int32} {σ : St} {R : Int32 × St} (h : f_X11_ship x1 x2 x3 x4 σ = some R) : KC eM tM kc ad D l yX11_ship (.code yX11_ship cX11_ship 5 (some .int)) r_X11_ship [.ref (ad 0), .int x1, .int x2, .int x3, .int x4] (some (.int R.1)) σ R.2 := by
  refine g_enter (by decide) (Nat.le_of_ble_eq_true rfl) ?_
  intro p e s m args below meth c A hA C hr hlocks Z ls hl
  have hl : lv_has ls 5 [(0, .ref (ad 0)), (1, .int x1), (2, .int x2), (3, .int x3), (4, .int x4)] := hl
  exact w_X11_ship_0 C (g_RTi C.1.1 C.1.2.1 hr hlocks hA)  Z hl h
def r_X11_report : Room := { frames := 2, cells := 0, slots := 0, locals := 46 }
set_option maxRecDepth 20000 in
theorem w_X11_report_0 {p : Program} {l : Launch} {e : Env} {s : State} {m : MethodId} {args : Array Value} {below : List Frame} {meth : Method} {c : Code} {Q : State → Prop} {D : va_G} {kc : Nat → ClassId} {ad : Nat → Nat} {A : Nat → Prop} (C : Cx eM p s m args c cX11_report 6 RX11 D kc A) {R : Int32 × St} {x1 : Int32} {x2 : Int32} {x3 : Int32} {x4 : Int32} {x5 : Int32} {σ : St} (hR : RTi 0 0 p l e r_X11_report s m args below meth c cX11_report tM kc ad D A Q .int R.1 R.2) {H : Heap} {locs : List Loc} {ls : Array Slot} (Z : Dy tM kc ad D A s.heap σ H locs) (hl : lv_has ls 6 [(0, .ref (ad 0)), (1, .int x1), (2, .int x2), (3, .int x3), (4, .int x4), (5, .int x5)]) (h : f_X11_report x1 x2 x3 x4 x5 σ = some R) : W p l e r_X11_report s m args below meth c H locs 0 0 Q (F0 m 0 ls []) := by
  have hx := C.1.1
  have hb := C.1.2.1
  unfold f_X11_report at h
  refine lv_aload_n hx hb dX11_report_0 rfl (lv_at hl 0 rfl) ?_
  refine rg_X11_261 C Z dX11_report_1 ?_
  refine lv_sipush (v := 300) hx hb dX11_report_4 (by decide) ?_
  refine lv_icmp_eq (tgt := 50) hx hb dX11_report_7 (by decide) (fun c7 => ?_) (fun c7 => ?_)
  · have h := ip h c7
    refine lv_iconst (v := (-1)) hx hb dX11_report_50 (by decide) ?_
    obtain rfl := Option.some.inj h
    exact hR _ _ _ _ _ Z dX11_report_51 rfl
  · have h := im h c7
    refine lv_aload_n hx hb dX11_report_10 rfl (lv_at hl 0 rfl) ?_
    refine lv_iload_n hx hb dX11_report_11 rfl (lv_at hl 1 rfl) ?_
    refine g_callVi eM_ok C Z (k_X11_isShip x1 σ) lk_X11_264 (by decide) rfl rfl hl (by decide) rfl (Nat.le_of_ble_eq_true rfl) (rest := []) rfl dX11_report_12 (fun H locs Z => ?_)
    refine lv_if_eq (tgt := 50) hx hb dX11_report_15 (by decide) (fun c15 => ?_) (fun c15 => ?_)
    · have h := ip h c15
      refine lv_iconst (v := (-1)) hx hb dX11_report_50 (by decide) ?_
      obtain rfl := Option.some.inj h
      exact hR _ _ _ _ _ Z dX11_report_51 rfl
    · have h := im h c15
      refine lv_aload_n hx hb dX11_report_18 rfl (lv_at hl 0 rfl) ?_
      refine lv_iload_n hx hb dX11_report_19 rfl (lv_at hl 2 rfl) ?_
      refine g_callVi eM_ok C Z (k_X11_isShip x2 σ) lk_X11_264 (by decide) rfl rfl hl (by decide) rfl (Nat.le_of_ble_eq_true rfl) (rest := []) rfl dX11_report_20 (fun H locs Z => ?_)
      refine lv_if_eq (tgt := 50) hx hb dX11_report_23 (by decide) (fun c23 => ?_) (fun c23 => ?_)
      · have h := ip h c23
        refine lv_iconst (v := (-1)) hx hb dX11_report_50 (by decide) ?_
        obtain rfl := Option.some.inj h
        exact hR _ _ _ _ _ Z dX11_report_51 rfl
      · have h := im h c23
        refine lv_iload_n hx hb dX11_report_26 rfl (lv_at hl 3 rfl) ?_
        refine lv_i2l (v := x3.toInt64) hx hb dX11_report_27 rfl ?_
        refine lv_lconst (v := 0) hx hb dX11_report_28 (by decide) ?_
        refine lv_aload_n hx hb dX11_report_29 rfl (lv_at hl 0 rfl) ?_
        refine rg_X11_237 C Z dX11_report_30 ?_
        refine lv_i2l (v := (gF σ 0).toInt64) hx hb dX11_report_33 rfl ?_
        refine g_callSi eM_ok C Z (k_X11_in x3.toInt64 0 ((gF σ 0).toInt64) σ) lk_X11_233 hl (by decide) rfl (Nat.le_of_ble_eq_true rfl) (rest := []) rfl dX11_report_34 (fun H locs Z => ?_)
        refine lv_if_eq (tgt := 50) hx hb dX11_report_37 (by decide) (fun c37 => ?_) (fun c37 => ?_)
        · have h := ip h c37
          refine lv_iconst (v := (-1)) hx hb dX11_report_50 (by decide) ?_
          obtain rfl := Option.some.inj h
          exact hR _ _ _ _ _ Z dX11_report_51 rfl
        · have h := im h c37
          refine lv_iload hx hb dX11_report_40 (lv_at hl 4 rfl) ?_
          refine lv_iload hx hb dX11_report_42 (lv_at hl 5 rfl) ?_
          refine g_callSi eM_ok C Z (k_X11_isCell x4 x5 σ) lk_X11_242 hl (by decide) rfl (Nat.le_of_ble_eq_true rfl) (rest := []) rfl dX11_report_44 (fun H locs Z => ?_)
          refine lv_if_ne (tgt := 52) hx hb dX11_report_47 (by decide) (fun c47 => ?_) (fun c47 => ?_)
          · have h := im h c47
            refine lv_aload_n hx hb dX11_report_52 rfl (lv_at hl 0 rfl) ?_
            refine rg_X11_25 C Z dX11_report_53 ?_
            refine lv_aload_n hx hb dX11_report_56 rfl (lv_at hl 0 rfl) ?_
            refine rg_X11_261 C Z dX11_report_57 ?_
            refine lv_iload_n hx hb dX11_report_60 rfl (lv_at hl 1 rfl) ?_
            obtain ⟨σ15, hσ15, h⟩ := ob h
            refine g_iast C Z iaM6 hσ15 dX11_report_61 (fun H locs Z => ?_)
            refine lv_aload_n hx hb dX11_report_62 rfl (lv_at hl 0 rfl) ?_
            refine rg_X11_28 C Z dX11_report_63 ?_
            refine lv_aload_n hx hb dX11_report_66 rfl (lv_at hl 0 rfl) ?_
            refine rg_X11_261 C Z dX11_report_67 ?_
            refine lv_iload_n hx hb dX11_report_70 rfl (lv_at hl 2 rfl) ?_
            obtain ⟨σ16, hσ16, h⟩ := ob h
            refine g_iast C Z iaM7 hσ16 dX11_report_71 (fun H locs Z => ?_)
            refine lv_aload_n hx hb dX11_report_72 rfl (lv_at hl 0 rfl) ?_
            refine rg_X11_31 C Z dX11_report_73 ?_
            refine lv_aload_n hx hb dX11_report_76 rfl (lv_at hl 0 rfl) ?_
            refine rg_X11_261 C Z dX11_report_77 ?_
            refine lv_iload_n hx hb dX11_report_80 rfl (lv_at hl 3 rfl) ?_
            obtain ⟨σ17, hσ17, h⟩ := ob h
            refine g_iast C Z iaM8 hσ17 dX11_report_81 (fun H locs Z => ?_)
            refine lv_aload_n hx hb dX11_report_82 rfl (lv_at hl 0 rfl) ?_
            refine rg_X11_34 C Z dX11_report_83 ?_
            refine lv_aload_n hx hb dX11_report_86 rfl (lv_at hl 0 rfl) ?_
            refine rg_X11_261 C Z dX11_report_87 ?_
            refine lv_iload hx hb dX11_report_90 (lv_at hl 4 rfl) ?_
            obtain ⟨σ18, hσ18, h⟩ := ob h
            refine g_iast C Z iaM9 hσ18 dX11_report_92 (fun H locs Z => ?_)
            refine lv_aload_n hx hb dX11_report_93 rfl (lv_at hl 0 rfl) ?_
            refine rg_X11_37 C Z dX11_report_94 ?_
            refine lv_aload_n hx hb dX11_report_97 rfl (lv_at hl 0 rfl) ?_
            refine rg_X11_261 C Z dX11_report_98 ?_
            refine lv_iload hx hb dX11_report_101 (lv_at hl 5 rfl) ?_
            obtain ⟨σ19, hσ19, h⟩ := ob h
            refine g_iast C Z iaM10 hσ19 dX11_report_103 (fun H locs Z => ?_)
            refine lv_aload_n hx hb dX11_report_104 rfl (lv_at hl 0 rfl) ?_
            refine rg_X11_40 C Z dX11_report_105 ?_
            refine lv_aload_n hx hb dX11_report_108 rfl (lv_at hl 0 rfl) ?_
            refine rg_X11_261 C Z dX11_report_109 ?_
            refine lv_aload_n hx hb dX11_report_112 rfl (lv_at hl 0 rfl) ?_
            refine rg_X11_237 C Z dX11_report_113 ?_
            obtain ⟨σ20, hσ20, h⟩ := ob h
            refine g_iast C Z iaM11 hσ20 dX11_report_116 (fun H locs Z => ?_)
            refine lv_aload_n hx hb dX11_report_117 rfl (lv_at hl 0 rfl) ?_
            refine lv_dup hx hb dX11_report_118 rfl ?_
            refine rg_X11_261 C Z dX11_report_119 ?_
            refine lv_iconst (v := 1) hx hb dX11_report_122 (by decide) ?_
            refine lv_iadd hx hb dX11_report_123 ?_
            obtain ⟨σ21, eσ21, h⟩ := lb h
            refine rp_X11_261 C Z eσ21 dX11_report_124 (fun H locs Z => ?_)
            refine lv_aload_n hx hb dX11_report_127 rfl (lv_at hl 0 rfl) ?_
            refine rg_X11_261 C Z dX11_report_128 ?_
            refine lv_iconst (v := 1) hx hb dX11_report_131 (by decide) ?_
            refine lv_isub hx hb dX11_report_132 ?_
            obtain rfl := Option.some.inj h
            exact hR _ _ _ _ _ Z dX11_report_133 rfl
          · have h := ip h c47
            refine lv_iconst (v := (-1)) hx hb dX11_report_50 (by decide) ?_
            obtain rfl := Option.some.inj h
            exact hR _ _ _ _ _ Z dX11_report_51 rfl
theorem k_X11_report {l : Launch} {kc : Nat → ClassId} {ad : Nat → Nat} {D : va_G} {x1 : Int32} {x2 : Int32} {x3 : Int32} {x4 : Int32} {x5 : Int32} {σ : St} {R : Int32 × St} (h : f_X11_report x1 x2 x3 x4 x5 σ = some R) : KC eM tM kc ad D l yX11_report (.code yX11_report cX11_report 6 (some .int)) r_X11_report [.ref (ad 0), .int x1, .int x2, .int x3, .int x4, .int x5] (some (.int R.1)) σ R.2 := by
  refine g_enter (by decide) (Nat.le_of_ble_eq_true rfl) ?_
  intro p e s m args below meth c A hA C hr hlocks Z ls hl
  have hl : lv_has ls 6 [(0, .ref (ad 0)), (1, .int x1), (2, .int x2), (3, .int x3), (4, .int x4), (5, .int x5)] := hl
  exact w_X11_report_0 C (g_RTi C.1.1 C.1.2.1 hr hlocks hA)  Z hl h
def r_X11_whereIs : Room := { frames := 0, cells := 0, slots := 0, locals := 0 }
set_option maxRecDepth 20000 in
theorem w_X11_whereIs_88 {p : Program} {l : Launch} {e : Env} {s : State} {m : MethodId} {args : Array Value} {below : List Frame} {meth : Method} {c : Code} {Q : State → Prop} {D : va_G} {kc : Nat → ClassId} {ad : Nat → Nat} {A : Nat → Prop} (C : Cx eM p s m args c cX11_whereIs 6 RX11 D kc A) {R : Int32} {x1 : Int32} {x2 : Int32} {x3 : Int32} {x4 : Int32} {x5 : Int32} {σ : St} (hR : RTi 0 0 p l e r_X11_whereIs s m args below meth c cX11_whereIs tM kc ad D A Q .int R σ) {k6 : Int32 → Int32 → Option (Int32)} (hk6 : ∀ (x4 : Int32) (x5 : Int32) (H : Heap) (locs : List Loc) (ls : Array Slot), Dy tM kc ad D A s.heap σ H locs → lv_has ls 6 [(0, .ref (ad 0)), (1, .int x1), (2, .int x2), (3, .int x3), (4, .int x4), (5, .int x5)] → k6 x4 x5 = some R → W p l e r_X11_whereIs s m args below meth c H locs 0 0 Q (F0 m 6 ls [])) {H : Heap} {locs : List Loc} {ls : Array Slot} (Z : Dy tM kc ad D A s.heap σ H locs) (hl : lv_has ls 6 [(0, .ref (ad 0)), (1, .int x1), (2, .int x2), (3, .int x3), (4, .int x4), (5, .int x5)]) (h : f_X11_whereIs_88 x1 x2 x3 x4 x5 σ k6 = some R) : W p l e r_X11_whereIs s m args below meth c H locs 0 0 Q (F0 m 88 ls []) := by
  have hx := C.1.1
  have hb := C.1.2.1
  unfold f_X11_whereIs_88 at h
  obtain ⟨v25, ev25, h⟩ := lb h
  refine lv_iinc (v := v25) (lv' := [(5, .int v25), (0, .ref (ad 0)), (1, .int x1), (2, .int x2), (3, .int x3), (4, .int x4)]) hx hb dX11_whereIs_88 hl (k := 5) rfl (by rw [ev25]; rfl) (by decide) rfl (fun ls hl => ?_)
  refine lv_goto (tgt := 6) hx hb dX11_whereIs_91 (by decide) ?_
  exact hk6 _ _ _ _ _ Z (lv_sub hl [1, 2, 3, 4, 5, 0] rfl) h
set_option maxRecDepth 20000 in
theorem w_X11_whereIs_84 {p : Program} {l : Launch} {e : Env} {s : State} {m : MethodId} {args : Array Value} {below : List Frame} {meth : Method} {c : Code} {Q : State → Prop} {D : va_G} {kc : Nat → ClassId} {ad : Nat → Nat} {A : Nat → Prop} (C : Cx eM p s m args c cX11_whereIs 6 RX11 D kc A) {R : Int32} {x1 : Int32} {x2 : Int32} {x3 : Int32} {x5 : Int32} {σ : St} (hR : RTi 0 0 p l e r_X11_whereIs s m args below meth c cX11_whereIs tM kc ad D A Q .int R σ) {k6 : Int32 → Int32 → Option (Int32)} (hk6 : ∀ (x4 : Int32) (x5 : Int32) (H : Heap) (locs : List Loc) (ls : Array Slot), Dy tM kc ad D A s.heap σ H locs → lv_has ls 6 [(0, .ref (ad 0)), (1, .int x1), (2, .int x2), (3, .int x3), (4, .int x4), (5, .int x5)] → k6 x4 x5 = some R → W p l e r_X11_whereIs s m args below meth c H locs 0 0 Q (F0 m 6 ls [])) {H : Heap} {locs : List Loc} {ls : Array Slot} (Z : Dy tM kc ad D A s.heap σ H locs) (hl : lv_has ls 6 [(0, .ref (ad 0)), (1, .int x1), (2, .int x2), (3, .int x3), (5, .int x5)]) (h : f_X11_whereIs_84 x1 x2 x3 x5 σ k6 = some R) : W p l e r_X11_whereIs s m args below meth c H locs 0 0 Q (F0 m 84 ls []) := by
  have hx := C.1.1
  have hb := C.1.2.1
  unfold f_X11_whereIs_84 at h
  refine lv_iload hx hb dX11_whereIs_84 (lv_at hl 4 rfl) ?_
  refine lv_istore (lv' := [(4, .int x5), (0, .ref (ad 0)), (1, .int x1), (2, .int x2), (3, .int x3), (5, .int x5)]) hx hb dX11_whereIs_86 hl (by decide) rfl (fun ls hl => ?_)
  exact w_X11_whereIs_88 C hR hk6 Z (lv_sub hl [1, 2, 3, 4, 0, 5] rfl) h
set_option maxRecDepth 20000 in
theorem w_X11_whereIs_94 {p : Program} {l : Launch} {e : Env} {s : State} {m : MethodId} {args : Array Value} {below : List Frame} {meth : Method} {c : Code} {Q : State → Prop} {D : va_G} {kc : Nat → ClassId} {ad : Nat → Nat} {A : Nat → Prop} (C : Cx eM p s m args c cX11_whereIs 6 RX11 D kc A) {R : Int32} {x4 : Int32} {σ : St} (hR : RTi 0 0 p l e r_X11_whereIs s m args below meth c cX11_whereIs tM kc ad D A Q .int R σ) {H : Heap} {locs : List Loc} {ls : Array Slot} (Z : Dy tM kc ad D A s.heap σ H locs) (hl : lv_has ls 6 [(0, .ref (ad 0)), (4, .int x4)]) (h : f_X11_whereIs_94 x4 σ = some R) : W p l e r_X11_whereIs s m args below meth c H locs 0 0 Q (F0 m 94 ls []) := by
  have hx := C.1.1
  have hb := C.1.2.1
  unfold f_X11_whereIs_94 at h
  refine lv_iload hx hb dX11_whereIs_94 (lv_at hl 1 rfl) ?_
  refine lv_if_ge (tgt := 103) hx hb dX11_whereIs_96 (by decide) (fun c96 => ?_) (fun c96 => ?_)
  · have h := ip h c96
    refine lv_bipush (v := 24) hx hb dX11_whereIs_103 (by decide) ?_
    refine lv_aload_n hx hb dX11_whereIs_105 rfl (lv_at hl 0 rfl) ?_
    refine rg_X11_37 C Z dX11_whereIs_106 ?_
    refine lv_iload hx hb dX11_whereIs_109 (lv_at hl 1 rfl) ?_
    obtain ⟨v26, hv26, h⟩ := ob h
    refine g_iald C Z iaM10 hv26 dX11_whereIs_111 ?_
    refine lv_imul hx hb dX11_whereIs_112 ?_
    refine lv_aload_n hx hb dX11_whereIs_113 rfl (lv_at hl 0 rfl) ?_
    refine rg_X11_34 C Z dX11_whereIs_114 ?_
    refine lv_iload hx hb dX11_whereIs_117 (lv_at hl 1 rfl) ?_
    obtain ⟨v27, hv27, h⟩ := ob h
    refine g_iald C Z iaM9 hv27 dX11_whereIs_119 ?_
    refine lv_iadd hx hb dX11_whereIs_120 ?_
    obtain rfl := Option.some.inj h
    exact hR _ _ _ _ _ Z dX11_whereIs_121 rfl
  · have h := im h c96
    refine lv_iconst (v := (-1)) hx hb dX11_whereIs_99 (by decide) ?_
    refine lv_goto (tgt := 121) hx hb dX11_whereIs_100 (by decide) ?_
    obtain rfl := Option.some.inj h
    exact hR _ _ _ _ _ Z dX11_whereIs_121 rfl
set_option maxRecDepth 20000 in
theorem w_X11_whereIs_6 {p : Program} {l : Launch} {e : Env} {s : State} {m : MethodId} {args : Array Value} {below : List Frame} {meth : Method} {c : Code} {Q : State → Prop} {D : va_G} {kc : Nat → ClassId} {ad : Nat → Nat} {A : Nat → Prop} (C : Cx eM p s m args c cX11_whereIs 6 RX11 D kc A) {R : Int32} {x1 : Int32} {x2 : Int32} {x3 : Int32} {σ : St} (hR : RTi 0 0 p l e r_X11_whereIs s m args below meth c cX11_whereIs tM kc ad D A Q .int R σ) : ∀ (n : Nat) (x4 : Int32) (x5 : Int32) (H : Heap) (locs : List Loc) (ls : Array Slot), Dy tM kc ad D A s.heap σ H locs → lv_has ls 6 [(0, .ref (ad 0)), (1, .int x1), (2, .int x2), (3, .int x3), (4, .int x4), (5, .int x5)] → f_X11_whereIs_6 x1 x2 x3 σ n x4 x5 = some R → W p l e r_X11_whereIs s m args below meth c H locs 0 0 Q (F0 m 6 ls []) := by
  have hx := C.1.1
  have hb := C.1.2.1
  intro n
  induction n with
  | zero =>
    intro x4 x5 H locs ls Z hl h
    exact absurd (show none = some R from h) (by simp)
  | succ n ih =>
    intro x4 x5 H locs ls Z hl h
    rw [f_X11_whereIs_6] at h
    refine lv_iload hx hb dX11_whereIs_6 (lv_at hl 5 rfl) ?_
    refine lv_aload_n hx hb dX11_whereIs_8 rfl (lv_at hl 0 rfl) ?_
    refine rg_X11_261 C Z dX11_whereIs_9 ?_
    refine lv_icmp_ge (tgt := 94) hx hb dX11_whereIs_12 (by decide) (fun c12 => ?_) (fun c12 => ?_)
    · have h := ip h c12
      exact w_X11_whereIs_94 C hR Z (lv_sub hl [0, 4] rfl) h
    · have h := im h c12
      refine lv_aload_n hx hb dX11_whereIs_15 rfl (lv_at hl 0 rfl) ?_
      refine rg_X11_28 C Z dX11_whereIs_16 ?_
      refine lv_iload hx hb dX11_whereIs_19 (lv_at hl 5 rfl) ?_
      obtain ⟨v19, hv19, h⟩ := ob h
      refine g_iald C Z iaM7 hv19 dX11_whereIs_21 ?_
      refine lv_iload_n hx hb dX11_whereIs_22 rfl (lv_at hl 1 rfl) ?_
      refine lv_icmp_ne (tgt := 88) hx hb dX11_whereIs_23 (by decide) (fun c23 => ?_) (fun c23 => ?_)
      · have h := im h c23
        exact w_X11_whereIs_88 C hR ih Z (lv_sub hl [0, 1, 2, 3, 4, 5] rfl) h
      · have h := ip h c23
        refine lv_aload_n hx hb dX11_whereIs_26 rfl (lv_at hl 0 rfl) ?_
        refine rg_X11_25 C Z dX11_whereIs_27 ?_
        refine lv_iload hx hb dX11_whereIs_30 (lv_at hl 5 rfl) ?_
        obtain ⟨v20, hv20, h⟩ := ob h
        refine g_iald C Z iaM6 hv20 dX11_whereIs_32 ?_
        refine lv_iload_n hx hb dX11_whereIs_33 rfl (lv_at hl 1 rfl) ?_
        refine lv_icmp_ne (tgt := 88) hx hb dX11_whereIs_34 (by decide) (fun c34 => ?_) (fun c34 => ?_)
        · have h := im h c34
          exact w_X11_whereIs_88 C hR ih Z (lv_sub hl [0, 1, 2, 3, 4, 5] rfl) h
        · have h := ip h c34
          refine lv_aload_n hx hb dX11_whereIs_37 rfl (lv_at hl 0 rfl) ?_
          refine rg_X11_40 C Z dX11_whereIs_38 ?_
          refine lv_iload hx hb dX11_whereIs_41 (lv_at hl 5 rfl) ?_
          obtain ⟨v21, hv21, h⟩ := ob h
          refine g_iald C Z iaM11 hv21 dX11_whereIs_43 ?_
          refine lv_iload_n hx hb dX11_whereIs_44 rfl (lv_at hl 3 rfl) ?_
          refine lv_icmp_gt (tgt := 88) hx hb dX11_whereIs_45 (by decide) (fun c45 => ?_) (fun c45 => ?_)
          · have h := ip h c45
            exact w_X11_whereIs_88 C hR ih Z (lv_sub hl [0, 1, 2, 3, 4, 5] rfl) h
          · have h := im h c45
            refine lv_aload_n hx hb dX11_whereIs_48 rfl (lv_at hl 0 rfl) ?_
            refine rg_X11_31 C Z dX11_whereIs_49 ?_
            refine lv_iload hx hb dX11_whereIs_52 (lv_at hl 5 rfl) ?_
            obtain ⟨v22, hv22, h⟩ := ob h
            refine g_iald C Z iaM8 hv22 dX11_whereIs_54 ?_
            refine lv_iload_n hx hb dX11_whereIs_55 rfl (lv_at hl 2 rfl) ?_
            refine lv_icmp_le (tgt := 62) hx hb dX11_whereIs_56 (by decide) (fun c56 => ?_) (fun c56 => ?_)
            · have h := ip h c56
              refine lv_iload hx hb dX11_whereIs_62 (lv_at hl 4 rfl) ?_
              refine lv_if_lt (tgt := 84) hx hb dX11_whereIs_64 (by decide) (fun c64 => ?_) (fun c64 => ?_)
              · have h := ip h c64
                exact w_X11_whereIs_84 C hR ih Z (lv_sub hl [0, 1, 2, 3, 5] rfl) h
              · have h := im h c64
                refine lv_aload_n hx hb dX11_whereIs_67 rfl (lv_at hl 0 rfl) ?_
                refine rg_X11_31 C Z dX11_whereIs_68 ?_
                refine lv_iload hx hb dX11_whereIs_71 (lv_at hl 5 rfl) ?_
                obtain ⟨v23, hv23, h⟩ := ob h
                refine g_iald C Z iaM8 hv23 dX11_whereIs_73 ?_
                refine lv_aload_n hx hb dX11_whereIs_74 rfl (lv_at hl 0 rfl) ?_
                refine rg_X11_31 C Z dX11_whereIs_75 ?_
                refine lv_iload hx hb dX11_whereIs_78 (lv_at hl 4 rfl) ?_
                obtain ⟨v24, hv24, h⟩ := ob h
                refine g_iald C Z iaM8 hv24 dX11_whereIs_80 ?_
                refine lv_icmp_lt (tgt := 88) hx hb dX11_whereIs_81 (by decide) (fun c81 => ?_) (fun c81 => ?_)
                · have h := ip h c81
                  exact w_X11_whereIs_88 C hR ih Z (lv_sub hl [0, 1, 2, 3, 4, 5] rfl) h
                · have h := im h c81
                  exact w_X11_whereIs_84 C hR ih Z (lv_sub hl [0, 1, 2, 3, 5] rfl) h
            · have h := im h c56
              refine lv_goto (tgt := 88) hx hb dX11_whereIs_59 (by decide) ?_
              exact w_X11_whereIs_88 C hR ih Z (lv_sub hl [0, 1, 2, 3, 4, 5] rfl) h
set_option maxRecDepth 20000 in
theorem w_X11_whereIs_0 {p : Program} {l : Launch} {e : Env} {s : State} {m : MethodId} {args : Array Value} {below : List Frame} {meth : Method} {c : Code} {Q : State → Prop} {D : va_G} {kc : Nat → ClassId} {ad : Nat → Nat} {A : Nat → Prop} (C : Cx eM p s m args c cX11_whereIs 6 RX11 D kc A) {R : Int32} {x1 : Int32} {x2 : Int32} {x3 : Int32} {σ : St} (hR : RTi 0 0 p l e r_X11_whereIs s m args below meth c cX11_whereIs tM kc ad D A Q .int R σ) {H : Heap} {locs : List Loc} {ls : Array Slot} (Z : Dy tM kc ad D A s.heap σ H locs) (hl : lv_has ls 6 [(0, .ref (ad 0)), (1, .int x1), (2, .int x2), (3, .int x3)]) (h : f_X11_whereIs x1 x2 x3 σ = some R) : W p l e r_X11_whereIs s m args below meth c H locs 0 0 Q (F0 m 0 ls []) := by
  have hx := C.1.1
  have hb := C.1.2.1
  unfold f_X11_whereIs at h
  refine lv_iconst (v := (-1)) hx hb dX11_whereIs_0 (by decide) ?_
  refine lv_istore (lv' := [(4, .int (-1)), (0, .ref (ad 0)), (1, .int x1), (2, .int x2), (3, .int x3)]) hx hb dX11_whereIs_1 hl (by decide) rfl (fun ls hl => ?_)
  refine lv_iconst (v := 0) hx hb dX11_whereIs_3 (by decide) ?_
  refine lv_istore (lv' := [(5, .int 0), (4, .int (-1)), (0, .ref (ad 0)), (1, .int x1), (2, .int x2), (3, .int x3)]) hx hb dX11_whereIs_4 hl (by decide) rfl (fun ls hl => ?_)
  exact w_X11_whereIs_6 C hR _ _ _ _ _ _ Z (lv_sub hl [2, 3, 4, 5, 1, 0] rfl) h
theorem k_X11_whereIs {l : Launch} {kc : Nat → ClassId} {ad : Nat → Nat} {D : va_G} {x1 : Int32} {x2 : Int32} {x3 : Int32} {σ : St} {R : Int32} (h : f_X11_whereIs x1 x2 x3 σ = some R) : KC eM tM kc ad D l yX11_whereIs (.code yX11_whereIs cX11_whereIs 6 (some .int)) r_X11_whereIs [.ref (ad 0), .int x1, .int x2, .int x3] (some (.int R)) σ σ := by
  refine g_enter (by decide) (Nat.le_of_ble_eq_true rfl) ?_
  intro p e s m args below meth c A hA C hr hlocks Z ls hl
  have hl : lv_has ls 6 [(0, .ref (ad 0)), (1, .int x1), (2, .int x2), (3, .int x3)] := hl
  exact w_X11_whereIs_0 C (g_RTi C.1.1 C.1.2.1 hr hlocks hA)  Z hl h
def r_X11_where : Room := { frames := 1, cells := 0, slots := 0, locals := 25 }
set_option maxRecDepth 20000 in
theorem w_X11_where_32 {p : Program} {l : Launch} {e : Env} {s : State} {m : MethodId} {args : Array Value} {below : List Frame} {meth : Method} {c : Code} {Q : State → Prop} {D : va_G} {kc : Nat → ClassId} {ad : Nat → Nat} {A : Nat → Prop} (C : Cx eM p s m args c cX11_where 4 RX11 D kc A) {R : Int32} {σ : St} (hR : RTi 0 0 p l e r_X11_where s m args below meth c cX11_where tM kc ad D A Q .int R σ) {H : Heap} {locs : List Loc} {ls : Array Slot} (Z : Dy tM kc ad D A s.heap σ H locs) (hl : lv_has ls 4 []) (h : f_X11_where_32 σ = some R) : W p l e r_X11_where s m args below meth c H locs 0 0 Q (F0 m 32 ls []) := by
  have hx := C.1.1
  have hb := C.1.2.1
  unfold f_X11_where_32 at h
  refine lv_iconst (v := (-1)) hx hb dX11_where_32 (by decide) ?_
  obtain rfl := Option.some.inj h
  exact hR _ _ _ _ _ Z dX11_where_33 rfl
set_option maxRecDepth 20000 in
theorem w_X11_where_0 {p : Program} {l : Launch} {e : Env} {s : State} {m : MethodId} {args : Array Value} {below : List Frame} {meth : Method} {c : Code} {Q : State → Prop} {D : va_G} {kc : Nat → ClassId} {ad : Nat → Nat} {A : Nat → Prop} (C : Cx eM p s m args c cX11_where 4 RX11 D kc A) {R : Int32} {x1 : Int32} {x2 : Int32} {x3 : Int32} {σ : St} (hR : RTi 0 0 p l e r_X11_where s m args below meth c cX11_where tM kc ad D A Q .int R σ) {H : Heap} {locs : List Loc} {ls : Array Slot} (Z : Dy tM kc ad D A s.heap σ H locs) (hl : lv_has ls 4 [(0, .ref (ad 0)), (1, .int x1), (2, .int x2), (3, .int x3)]) (h : f_X11_where x1 x2 x3 σ = some R) : W p l e r_X11_where s m args below meth c H locs 0 0 Q (F0 m 0 ls []) := by
  have hx := C.1.1
  have hb := C.1.2.1
  unfold f_X11_where at h
  refine lv_aload_n hx hb dX11_where_0 rfl (lv_at hl 0 rfl) ?_
  refine lv_iload_n hx hb dX11_where_1 rfl (lv_at hl 1 rfl) ?_
  refine g_callVi eM_ok C Z (k_X11_isShip x1 σ) lk_X11_264 (by decide) rfl rfl hl (by decide) rfl (Nat.le_of_ble_eq_true rfl) (rest := []) rfl dX11_where_2 (fun H locs Z => ?_)
  refine lv_if_eq (tgt := 32) hx hb dX11_where_5 (by decide) (fun c5 => ?_) (fun c5 => ?_)
  · have h := ip h c5
    exact w_X11_where_32 C hR Z (lv_sub hl [] rfl) h
  · have h := im h c5
    refine lv_iload_n hx hb dX11_where_8 rfl (lv_at hl 2 rfl) ?_
    refine g_callSi eM_ok C Z (k_X11_isMinute x2 σ) lk_X11_267 hl (by decide) rfl (Nat.le_of_ble_eq_true rfl) (rest := []) rfl dX11_where_9 (fun H locs Z => ?_)
    refine lv_if_eq (tgt := 32) hx hb dX11_where_12 (by decide) (fun c12 => ?_) (fun c12 => ?_)
    · have h := ip h c12
      exact w_X11_where_32 C hR Z (lv_sub hl [] rfl) h
    · have h := im h c12
      refine lv_iload_n hx hb dX11_where_15 rfl (lv_at hl 3 rfl) ?_
      refine g_callSi eM_ok C Z (k_X11_isMinute x3 σ) lk_X11_267 hl (by decide) rfl (Nat.le_of_ble_eq_true rfl) (rest := []) rfl dX11_where_16 (fun H locs Z => ?_)
      refine lv_if_eq (tgt := 32) hx hb dX11_where_19 (by decide) (fun c19 => ?_) (fun c19 => ?_)
      · have h := ip h c19
        exact w_X11_where_32 C hR Z (lv_sub hl [] rfl) h
      · have h := im h c19
        refine lv_aload_n hx hb dX11_where_22 rfl (lv_at hl 0 rfl) ?_
        refine lv_iload_n hx hb dX11_where_23 rfl (lv_at hl 1 rfl) ?_
        refine lv_iload_n hx hb dX11_where_24 rfl (lv_at hl 2 rfl) ?_
        refine lv_iload_n hx hb dX11_where_25 rfl (lv_at hl 3 rfl) ?_
        obtain ⟨v3, hv3, h⟩ := ob h
        refine g_callVi eM_ok C Z (k_X11_whereIs hv3) lk_X11_270 (by decide) rfl rfl hl (by decide) rfl (Nat.le_of_ble_eq_true rfl) (rest := []) rfl dX11_where_26 (fun H locs Z => ?_)
        refine lv_goto (tgt := 33) hx hb dX11_where_29 (by decide) ?_
        obtain rfl := Option.some.inj h
        exact hR _ _ _ _ _ Z dX11_where_33 rfl
theorem k_X11_where {l : Launch} {kc : Nat → ClassId} {ad : Nat → Nat} {D : va_G} {x1 : Int32} {x2 : Int32} {x3 : Int32} {σ : St} {R : Int32} (h : f_X11_where x1 x2 x3 σ = some R) : KC eM tM kc ad D l yX11_where (.code yX11_where cX11_where 4 (some .int)) r_X11_where [.ref (ad 0), .int x1, .int x2, .int x3] (some (.int R)) σ σ := by
  refine g_enter (by decide) (Nat.le_of_ble_eq_true rfl) ?_
  intro p e s m args below meth c A hA C hr hlocks Z ls hl
  have hl : lv_has ls 4 [(0, .ref (ad 0)), (1, .int x1), (2, .int x2), (3, .int x3)] := hl
  exact w_X11_where_0 C (g_RTi C.1.1 C.1.2.1 hr hlocks hA)  Z hl h
def r_X11_canBoth : Room := { frames := 1, cells := 0, slots := 0, locals := 20 }
set_option maxRecDepth 20000 in
theorem w_X11_canBoth_0 {p : Program} {l : Launch} {e : Env} {s : State} {m : MethodId} {args : Array Value} {below : List Frame} {meth : Method} {c : Code} {Q : State → Prop} {D : va_G} {kc : Nat → ClassId} {ad : Nat → Nat} {A : Nat → Prop} (C : Cx eM p s m args c cX11_canBoth 6 RX11 D kc A) {R : Int32} {x1 : Int32} {x2 : Int32} {x3 : Int32} {σ : St} (hR : RTi 0 0 p l e r_X11_canBoth s m args below meth c cX11_canBoth tM kc ad D A Q .boolean R σ) {H : Heap} {locs : List Loc} {ls : Array Slot} (Z : Dy tM kc ad D A s.heap σ H locs) (hl : lv_has ls 6 [(0, .ref (ad 0)), (1, .int x1), (2, .int x2), (3, .int x3)]) (h : f_X11_canBoth x1 x2 x3 σ = some R) : W p l e r_X11_canBoth s m args below meth c H locs 0 0 Q (F0 m 0 ls []) := by
  have hx := C.1.1
  have hb := C.1.2.1
  unfold f_X11_canBoth at h
  refine lv_aload_n hx hb dX11_canBoth_0 rfl (lv_at hl 0 rfl) ?_
  refine rg_X11_34 C Z dX11_canBoth_1 ?_
  refine lv_iload_n hx hb dX11_canBoth_4 rfl (lv_at hl 1 rfl) ?_
  obtain ⟨v17, hv17, h⟩ := ob h
  refine g_iald C Z iaM9 hv17 dX11_canBoth_5 ?_
  refine lv_aload_n hx hb dX11_canBoth_6 rfl (lv_at hl 0 rfl) ?_
  refine rg_X11_34 C Z dX11_canBoth_7 ?_
  refine lv_iload_n hx hb dX11_canBoth_10 rfl (lv_at hl 2 rfl) ?_
  obtain ⟨v18, hv18, h⟩ := ob h
  refine g_iald C Z iaM9 hv18 dX11_canBoth_11 ?_
  refine lv_isub hx hb dX11_canBoth_12 ?_
  refine g_callSi eM_ok C Z (k_X11_without (v17 - v18) σ) lk_X11_274 hl (by decide) rfl (Nat.le_of_ble_eq_true rfl) (rest := []) rfl dX11_canBoth_13 (fun H locs Z => ?_)
  obtain ⟨v19, ev19, h⟩ := lb h
  refine tn_i ev19 ?_
  refine lv_istore (lv' := [(4, .int v19), (0, .ref (ad 0)), (1, .int x1), (2, .int x2), (3, .int x3)]) hx hb dX11_canBoth_16 hl (by decide) rfl (fun ls hl => ?_)
  refine lv_aload_n hx hb dX11_canBoth_18 rfl (lv_at hl 1 rfl) ?_
  refine rg_X11_37 C Z dX11_canBoth_19 ?_
  refine lv_iload_n hx hb dX11_canBoth_22 rfl (lv_at hl 2 rfl) ?_
  obtain ⟨v20, hv20, h⟩ := ob h
  refine g_iald C Z iaM10 hv20 dX11_canBoth_23 ?_
  refine lv_aload_n hx hb dX11_canBoth_24 rfl (lv_at hl 1 rfl) ?_
  refine rg_X11_37 C Z dX11_canBoth_25 ?_
  refine lv_iload_n hx hb dX11_canBoth_28 rfl (lv_at hl 3 rfl) ?_
  obtain ⟨v21, hv21, h⟩ := ob h
  refine g_iald C Z iaM10 hv21 dX11_canBoth_29 ?_
  refine lv_isub hx hb dX11_canBoth_30 ?_
  refine g_callSi eM_ok C Z (k_X11_without (v20 - v21) σ) lk_X11_274 hl (by decide) rfl (Nat.le_of_ble_eq_true rfl) (rest := []) rfl dX11_canBoth_31 (fun H locs Z => ?_)
  obtain ⟨v22, ev22, h⟩ := lb h
  refine tn_i ev22 ?_
  refine lv_istore (lv' := [(5, .int v22), (4, .int v19), (0, .ref (ad 0)), (1, .int x1), (2, .int x2), (3, .int x3)]) hx hb dX11_canBoth_34 hl (by decide) rfl (fun ls hl => ?_)
  refine lv_iload hx hb dX11_canBoth_36 (lv_at hl 1 rfl) ?_
  refine lv_iload hx hb dX11_canBoth_38 (lv_at hl 0 rfl) ?_
  obtain ⟨v23, ev23, h⟩ := lb h
  have hj : W p l e r_X11_canBoth s m args below meth c H locs 0 0 Q (F0 m 50 ls [.int v23]) := by
    refine lv_iload_n hx hb dX11_canBoth_50 rfl (lv_at hl 5 rfl) ?_
    refine lv_aload_n hx hb dX11_canBoth_51 rfl (lv_at hl 2 rfl) ?_
    refine rg_X11_31 C Z dX11_canBoth_52 ?_
    refine lv_iload_n hx hb dX11_canBoth_55 rfl (lv_at hl 3 rfl) ?_
    obtain ⟨v24, hv24, h⟩ := ob h
    refine g_iald C Z iaM8 hv24 dX11_canBoth_56 ?_
    refine lv_aload_n hx hb dX11_canBoth_57 rfl (lv_at hl 2 rfl) ?_
    refine rg_X11_31 C Z dX11_canBoth_58 ?_
    refine lv_iload_n hx hb dX11_canBoth_61 rfl (lv_at hl 4 rfl) ?_
    obtain ⟨v25, hv25, h⟩ := ob h
    refine g_iald C Z iaM8 hv25 dX11_canBoth_62 ?_
    refine lv_isub hx hb dX11_canBoth_63 ?_
    refine g_callSi eM_ok C Z (k_X11_without (v24 - v25) σ) lk_X11_274 hl (by decide) rfl (Nat.le_of_ble_eq_true rfl) (rest := [.int x3, .int v23]) rfl dX11_canBoth_64 (fun H locs Z => ?_)
    refine lv_imul hx hb dX11_canBoth_67 ?_
    obtain ⟨v26, ev26, h⟩ := lb h
    have hj : W p l e r_X11_canBoth s m args below meth c H locs 0 0 Q (F0 m 76 ls [.int v26]) := by
      obtain rfl := Option.some.inj h
      exact hR _ _ _ _ _ Z dX11_canBoth_76 (nar_b _)
    refine lv_icmp_gt (tgt := 75) hx hb dX11_canBoth_68 (by decide) (fun c68 => ?_) (fun c68 => ?_)
    · rw [if_pos c68] at ev26
      refine lv_iconst (v := 0) hx hb dX11_canBoth_75 (by decide) ?_
      exact tn_i ev26 hj
    · rw [if_neg c68] at ev26
      refine lv_iconst (v := 1) hx hb dX11_canBoth_71 (by decide) ?_
      refine lv_goto (tgt := 76) hx hb dX11_canBoth_72 (by decide) ?_
      exact tn_i ev26 hj
  refine lv_icmp_le (tgt := 48) hx hb dX11_canBoth_40 (by decide) (fun c40 => ?_) (fun c40 => ?_)
  · rw [if_pos c40] at ev23
    refine lv_iload hx hb dX11_canBoth_48 (lv_at hl 0 rfl) ?_
    exact tn_i ev23 hj
  · rw [if_neg c40] at ev23
    refine lv_iload hx hb dX11_canBoth_43 (lv_at hl 1 rfl) ?_
    refine lv_goto (tgt := 50) hx hb dX11_canBoth_45 (by decide) ?_
    exact tn_i ev23 hj
theorem k_X11_canBoth {l : Launch} {kc : Nat → ClassId} {ad : Nat → Nat} {D : va_G} {x1 : Int32} {x2 : Int32} {x3 : Int32} {σ : St} {R : Int32} (h : f_X11_canBoth x1 x2 x3 σ = some R) : KC eM tM kc ad D l yX11_canBoth (.code yX11_canBoth cX11_canBoth 6 (some .boolean)) r_X11_canBoth [.ref (ad 0), .int x1, .int x2, .int x3] (some (.int R)) σ σ := by
  refine g_enter (by decide) (Nat.le_of_ble_eq_true rfl) ?_
  intro p e s m args below meth c A hA C hr hlocks Z ls hl
  have hl : lv_has ls 6 [(0, .ref (ad 0)), (1, .int x1), (2, .int x2), (3, .int x3)] := hl
  exact w_X11_canBoth_0 C (g_RTi C.1.1 C.1.2.1 hr hlocks hA)  Z hl h
def r_X11_chain : Room := { frames := 2, cells := 0, slots := 0, locals := 45 }
set_option maxRecDepth 20000 in
theorem w_X11_chain_122 {p : Program} {l : Launch} {e : Env} {s : State} {m : MethodId} {args : Array Value} {below : List Frame} {meth : Method} {c : Code} {Q : State → Prop} {D : va_G} {kc : Nat → ClassId} {ad : Nat → Nat} {A : Nat → Prop} (C : Cx eM p s m args c cX11_chain 8 RX11 D kc A) {R : Int32 × St} {x1 : Int32} {x2 : Int32} {x3 : Int32} {x4 : Int32} {σ : St} (hR : RTi 0 0 p l e r_X11_chain s m args below meth c cX11_chain tM kc ad D A Q .int R.1 R.2) {k22 : Int32 → Int32 → St → Option (Int32 × St)} (hk22 : ∀ (x3 : Int32) (x4 : Int32) (σ : St) (H : Heap) (locs : List Loc) (ls : Array Slot), Dy tM kc ad D A s.heap σ H locs → lv_has ls 8 [(0, .ref (ad 0)), (1, .int x1), (2, .int x2), (3, .int x3), (4, .int x4)] → k22 x3 x4 σ = some R → W p l e r_X11_chain s m args below meth c H locs 0 0 Q (F0 m 22 ls [])) {H : Heap} {locs : List Loc} {ls : Array Slot} (Z : Dy tM kc ad D A s.heap σ H locs) (hl : lv_has ls 8 [(0, .ref (ad 0)), (1, .int x1), (2, .int x2), (3, .int x3), (4, .int x4)]) (h : f_X11_chain_122 x1 x2 x3 x4 σ k22 = some R) : W p l e r_X11_chain s m args below meth c H locs 0 0 Q (F0 m 122 ls []) := by
  have hx := C.1.1
  have hb := C.1.2.1
  unfold f_X11_chain_122 at h
  obtain ⟨v83, ev83, h⟩ := lb h
  refine lv_iinc (v := v83) (lv' := [(4, .int v83), (0, .ref (ad 0)), (1, .int x1), (2, .int x2), (3, .int x3)]) hx hb dX11_chain_122 hl (k := 4) rfl (by rw [ev83]; rfl) (by decide) rfl (fun ls hl => ?_)
  refine lv_goto (tgt := 22) hx hb dX11_chain_125 (by decide) ?_
  exact hk22 _ _ _ _ _ _ Z (lv_sub hl [1, 2, 3, 4, 0] rfl) h
set_option maxRecDepth 20000 in
theorem w_X11_chain_110 {p : Program} {l : Launch} {e : Env} {s : State} {m : MethodId} {args : Array Value} {below : List Frame} {meth : Method} {c : Code} {Q : State → Prop} {D : va_G} {kc : Nat → ClassId} {ad : Nat → Nat} {A : Nat → Prop} (C : Cx eM p s m args c cX11_chain 8 RX11 D kc A) {R : Int32 × St} {x1 : Int32} {x2 : Int32} {x3 : Int32} {x4 : Int32} {x5 : Int32} {σ : St} (hR : RTi 0 0 p l e r_X11_chain s m args below meth c cX11_chain tM kc ad D A Q .int R.1 R.2) {k22 : Int32 → Int32 → St → Option (Int32 × St)} (hk22 : ∀ (x3 : Int32) (x4 : Int32) (σ : St) (H : Heap) (locs : List Loc) (ls : Array Slot), Dy tM kc ad D A s.heap σ H locs → lv_has ls 8 [(0, .ref (ad 0)), (1, .int x1), (2, .int x2), (3, .int x3), (4, .int x4)] → k22 x3 x4 σ = some R → W p l e r_X11_chain s m args below meth c H locs 0 0 Q (F0 m 22 ls [])) {H : Heap} {locs : List Loc} {ls : Array Slot} (Z : Dy tM kc ad D A s.heap σ H locs) (hl : lv_has ls 8 [(0, .ref (ad 0)), (1, .int x1), (2, .int x2), (3, .int x3), (4, .int x4), (5, .int x5)]) (h : f_X11_chain_110 x1 x2 x3 x4 x5 σ k22 = some R) : W p l e r_X11_chain s m args below meth c H locs 0 0 Q (F0 m 110 ls []) := by
  have hx := C.1.1
  have hb := C.1.2.1
  unfold f_X11_chain_110 at h
  refine lv_aload_n hx hb dX11_chain_110 rfl (lv_at hl 0 rfl) ?_
  refine rg_X11_46 C Z dX11_chain_111 ?_
  refine lv_iload hx hb dX11_chain_114 (lv_at hl 5 rfl) ?_
  refine lv_iload hx hb dX11_chain_116 (lv_at hl 4 rfl) ?_
  obtain ⟨σ81, hσ81, h⟩ := ob h
  refine g_iast C Z iaM13 hσ81 dX11_chain_118 (fun H locs Z => ?_)
  obtain ⟨v82, ev82, h⟩ := lb h
  refine lv_iinc (v := v82) (lv' := [(3, .int v82), (0, .ref (ad 0)), (1, .int x1), (2, .int x2), (4, .int x4), (5, .int x5)]) hx hb dX11_chain_119 hl (k := 3) rfl (by rw [ev82]; rfl) (by decide) rfl (fun ls hl => ?_)
  exact w_X11_chain_122 C hR hk22 Z (lv_sub hl [1, 2, 3, 0, 4] rfl) h
set_option maxRecDepth 20000 in
theorem w_X11_chain_59 {p : Program} {l : Launch} {e : Env} {s : State} {m : MethodId} {args : Array Value} {below : List Frame} {meth : Method} {c : Code} {Q : State → Prop} {D : va_G} {kc : Nat → ClassId} {ad : Nat → Nat} {A : Nat → Prop} (C : Cx eM p s m args c cX11_chain 8 RX11 D kc A) {R : Int32 × St} {x1 : Int32} {x2 : Int32} {x3 : Int32} {x4 : Int32} (hR : RTi 0 0 p l e r_X11_chain s m args below meth c cX11_chain tM kc ad D A Q .int R.1 R.2) {k22 : Int32 → Int32 → St → Option (Int32 × St)} (hk22 : ∀ (x3 : Int32) (x4 : Int32) (σ : St) (H : Heap) (locs : List Loc) (ls : Array Slot), Dy tM kc ad D A s.heap σ H locs → lv_has ls 8 [(0, .ref (ad 0)), (1, .int x1), (2, .int x2), (3, .int x3), (4, .int x4)] → k22 x3 x4 σ = some R → W p l e r_X11_chain s m args below meth c H locs 0 0 Q (F0 m 22 ls [])) : ∀ (n : Nat) (x5 : Int32) (σ : St) (H : Heap) (locs : List Loc) (ls : Array Slot), Dy tM kc ad D A s.heap σ H locs → lv_has ls 8 [(0, .ref (ad 0)), (1, .int x1), (2, .int x2), (3, .int x3), (4, .int x4), (5, .int x5)] → f_X11_chain_59 x1 x2 x3 x4 k22 n x5 σ = some R → W p l e r_X11_chain s m args below meth c H locs 0 0 Q (F0 m 59 ls []) := by
  have hx := C.1.1
  have hb := C.1.2.1
  intro n
  induction n with
  | zero =>
    intro x5 σ H locs ls Z hl h
    exact absurd (show none = some R from h) (by simp)
  | succ n ih =>
    intro x5 σ H locs ls Z hl h
    rw [f_X11_chain_59] at h
    refine lv_iload hx hb dX11_chain_59 (lv_at hl 5 rfl) ?_
    refine lv_if_le (tgt := 110) hx hb dX11_chain_61 (by decide) (fun c61 => ?_) (fun c61 => ?_)
    · have h := ip h c61
      exact w_X11_chain_110 C hR hk22 Z (lv_sub hl [0, 1, 2, 3, 4, 5] rfl) h
    · have h := im h c61
      refine lv_aload_n hx hb dX11_chain_64 rfl (lv_at hl 0 rfl) ?_
      refine rg_X11_31 C Z dX11_chain_65 ?_
      refine lv_aload_n hx hb dX11_chain_68 rfl (lv_at hl 0 rfl) ?_
      refine rg_X11_46 C Z dX11_chain_69 ?_
      refine lv_iload hx hb dX11_chain_72 (lv_at hl 5 rfl) ?_
      refine lv_iconst (v := 1) hx hb dX11_chain_74 (by decide) ?_
      refine lv_isub hx hb dX11_chain_75 ?_
      obtain ⟨v75, hv75, h⟩ := ob h
      refine g_iald C Z iaM13 hv75 dX11_chain_76 ?_
      obtain ⟨v76, hv76, h⟩ := ob h
      refine g_iald C Z iaM8 hv76 dX11_chain_77 ?_
      refine lv_aload_n hx hb dX11_chain_78 rfl (lv_at hl 0 rfl) ?_
      refine rg_X11_31 C Z dX11_chain_79 ?_
      refine lv_iload hx hb dX11_chain_82 (lv_at hl 4 rfl) ?_
      obtain ⟨v77, hv77, h⟩ := ob h
      refine g_iald C Z iaM8 hv77 dX11_chain_84 ?_
      refine lv_icmp_le (tgt := 110) hx hb dX11_chain_85 (by decide) (fun c85 => ?_) (fun c85 => ?_)
      · have h := ip h c85
        exact w_X11_chain_110 C hR hk22 Z (lv_sub hl [0, 1, 2, 3, 4, 5] rfl) h
      · have h := im h c85
        refine lv_aload_n hx hb dX11_chain_88 rfl (lv_at hl 0 rfl) ?_
        refine rg_X11_46 C Z dX11_chain_89 ?_
        refine lv_iload hx hb dX11_chain_92 (lv_at hl 5 rfl) ?_
        refine lv_aload_n hx hb dX11_chain_94 rfl (lv_at hl 0 rfl) ?_
        refine rg_X11_46 C Z dX11_chain_95 ?_
        refine lv_iload hx hb dX11_chain_98 (lv_at hl 5 rfl) ?_
        refine lv_iconst (v := 1) hx hb dX11_chain_100 (by decide) ?_
        refine lv_isub hx hb dX11_chain_101 ?_
        obtain ⟨v78, hv78, h⟩ := ob h
        refine g_iald C Z iaM13 hv78 dX11_chain_102 ?_
        obtain ⟨σ79, hσ79, h⟩ := ob h
        refine g_iast C Z iaM13 hσ79 dX11_chain_103 (fun H locs Z => ?_)
        obtain ⟨v80, ev80, h⟩ := lb h
        refine lv_iinc (v := v80) (lv' := [(5, .int v80), (0, .ref (ad 0)), (1, .int x1), (2, .int x2), (3, .int x3), (4, .int x4)]) hx hb dX11_chain_104 hl (k := 5) rfl (by rw [ev80]; rfl) (by decide) rfl (fun ls hl => ?_)
        refine lv_goto (tgt := 59) hx hb dX11_chain_107 (by decide) ?_
        exact ih _ _ _ _ _ Z (lv_sub hl [1, 2, 3, 4, 5, 0] rfl) h
set_option maxRecDepth 20000 in
theorem w_X11_chain_223 {p : Program} {l : Launch} {e : Env} {s : State} {m : MethodId} {args : Array Value} {below : List Frame} {meth : Method} {c : Code} {Q : State → Prop} {D : va_G} {kc : Nat → ClassId} {ad : Nat → Nat} {A : Nat → Prop} (C : Cx eM p s m args c cX11_chain 8 RX11 D kc A) {R : Int32 × St} {x1 : Int32} {x3 : Int32} {x4 : Int32} {x5 : Int32} {x6 : Int32} {σ : St} (hR : RTi 0 0 p l e r_X11_chain s m args below meth c cX11_chain tM kc ad D A Q .int R.1 R.2) {k155 : Int32 → St → Option (Int32 × St)} {k136 : Int32 → Int32 → St → Option (Int32 × St)} (hk155 : ∀ (x6 : Int32) (σ : St) (H : Heap) (locs : List Loc) (ls : Array Slot), Dy tM kc ad D A s.heap σ H locs → lv_has ls 8 [(0, .ref (ad 0)), (1, .int x1), (3, .int x3), (4, .int x4), (5, .int x5), (6, .int x6)] → k155 x6 σ = some R → W p l e r_X11_chain s m args below meth c H locs 0 0 Q (F0 m 155 ls [])) (hk136 : ∀ (x4 : Int32) (x5 : Int32) (σ : St) (H : Heap) (locs : List Loc) (ls : Array Slot), Dy tM kc ad D A s.heap σ H locs → lv_has ls 8 [(0, .ref (ad 0)), (1, .int x1), (3, .int x3), (4, .int x4), (5, .int x5)] → k136 x4 x5 σ = some R → W p l e r_X11_chain s m args below meth c H locs 0 0 Q (F0 m 136 ls [])) {H : Heap} {locs : List Loc} {ls : Array Slot} (Z : Dy tM kc ad D A s.heap σ H locs) (hl : lv_has ls 8 [(0, .ref (ad 0)), (1, .int x1), (3, .int x3), (4, .int x4), (5, .int x5), (6, .int x6)]) (h : f_X11_chain_223 x1 x3 x4 x5 x6 σ k155 k136 = some R) : W p l e r_X11_chain s m args below meth c H locs 0 0 Q (F0 m 223 ls []) := by
  have hx := C.1.1
  have hb := C.1.2.1
  unfold f_X11_chain_223 at h
  obtain ⟨v95, ev95, h⟩ := lb h
  refine lv_iinc (v := v95) (lv' := [(6, .int v95), (0, .ref (ad 0)), (1, .int x1), (3, .int x3), (4, .int x4), (5, .int x5)]) hx hb dX11_chain_223 hl (k := 5) rfl (by rw [ev95]; rfl) (by decide) rfl (fun ls hl => ?_)
  refine lv_goto (tgt := 155) hx hb dX11_chain_226 (by decide) ?_
  exact hk155 _ _ _ _ _ Z (lv_sub hl [1, 2, 3, 4, 5, 0] rfl) h
set_option maxRecDepth 20000 in
theorem w_X11_chain_253 {p : Program} {l : Launch} {e : Env} {s : State} {m : MethodId} {args : Array Value} {below : List Frame} {meth : Method} {c : Code} {Q : State → Prop} {D : va_G} {kc : Nat → ClassId} {ad : Nat → Nat} {A : Nat → Prop} (C : Cx eM p s m args c cX11_chain 8 RX11 D kc A) {R : Int32 × St} {x1 : Int32} {x3 : Int32} {x5 : Int32} {y0 : Int32} {σ : St} (hR : RTi 0 0 p l e r_X11_chain s m args below meth c cX11_chain tM kc ad D A Q .int R.1 R.2) {k136 : Int32 → Int32 → St → Option (Int32 × St)} (hk136 : ∀ (x4 : Int32) (x5 : Int32) (σ : St) (H : Heap) (locs : List Loc) (ls : Array Slot), Dy tM kc ad D A s.heap σ H locs → lv_has ls 8 [(0, .ref (ad 0)), (1, .int x1), (3, .int x3), (4, .int x4), (5, .int x5)] → k136 x4 x5 σ = some R → W p l e r_X11_chain s m args below meth c H locs 0 0 Q (F0 m 136 ls [])) {H : Heap} {locs : List Loc} {ls : Array Slot} (Z : Dy tM kc ad D A s.heap σ H locs) (hl : lv_has ls 8 [(0, .ref (ad 0)), (1, .int x1), (3, .int x3), (5, .int x5)]) (h : f_X11_chain_253 x1 x3 x5 y0 σ k136 = some R) : W p l e r_X11_chain s m args below meth c H locs 0 0 Q (F0 m 253 ls [.int y0]) := by
  have hx := C.1.1
  have hb := C.1.2.1
  unfold f_X11_chain_253 at h
  refine lv_istore (lv' := [(4, .int y0), (0, .ref (ad 0)), (1, .int x1), (3, .int x3), (5, .int x5)]) hx hb dX11_chain_253 hl (by decide) rfl (fun ls hl => ?_)
  obtain ⟨v98, ev98, h⟩ := lb h
  refine lv_iinc (v := v98) (lv' := [(5, .int v98), (4, .int y0), (0, .ref (ad 0)), (1, .int x1), (3, .int x3)]) hx hb dX11_chain_255 hl (k := 4) rfl (by rw [ev98]; rfl) (by decide) rfl (fun ls hl => ?_)
  refine lv_goto (tgt := 136) hx hb dX11_chain_258 (by decide) ?_
  exact hk136 _ _ _ _ _ _ Z (lv_sub hl [2, 3, 4, 1, 0] rfl) h
set_option maxRecDepth 20000 in
theorem w_X11_chain_229 {p : Program} {l : Launch} {e : Env} {s : State} {m : MethodId} {args : Array Value} {below : List Frame} {meth : Method} {c : Code} {Q : State → Prop} {D : va_G} {kc : Nat → ClassId} {ad : Nat → Nat} {A : Nat → Prop} (C : Cx eM p s m args c cX11_chain 8 RX11 D kc A) {R : Int32 × St} {x1 : Int32} {x3 : Int32} {x4 : Int32} {x5 : Int32} {σ : St} (hR : RTi 0 0 p l e r_X11_chain s m args below meth c cX11_chain tM kc ad D A Q .int R.1 R.2) {k136 : Int32 → Int32 → St → Option (Int32 × St)} (hk136 : ∀ (x4 : Int32) (x5 : Int32) (σ : St) (H : Heap) (locs : List Loc) (ls : Array Slot), Dy tM kc ad D A s.heap σ H locs → lv_has ls 8 [(0, .ref (ad 0)), (1, .int x1), (3, .int x3), (4, .int x4), (5, .int x5)] → k136 x4 x5 σ = some R → W p l e r_X11_chain s m args below meth c H locs 0 0 Q (F0 m 136 ls [])) {H : Heap} {locs : List Loc} {ls : Array Slot} (Z : Dy tM kc ad D A s.heap σ H locs) (hl : lv_has ls 8 [(0, .ref (ad 0)), (1, .int x1), (3, .int x3), (4, .int x4), (5, .int x5)]) (h : f_X11_chain_229 x1 x3 x4 x5 σ k136 = some R) : W p l e r_X11_chain s m args below meth c H locs 0 0 Q (F0 m 229 ls []) := by
  have hx := C.1.1
  have hb := C.1.2.1
  unfold f_X11_chain_229 at h
  refine lv_aload_n hx hb dX11_chain_229 rfl (lv_at hl 0 rfl) ?_
  refine rg_X11_49 C Z dX11_chain_230 ?_
  refine lv_iload hx hb dX11_chain_233 (lv_at hl 4 rfl) ?_
  obtain ⟨v96, hv96, h⟩ := ob h
  refine g_iald C Z iaM14 hv96 dX11_chain_235 ?_
  refine lv_iload hx hb dX11_chain_236 (lv_at hl 3 rfl) ?_
  refine lv_icmp_le (tgt := 251) hx hb dX11_chain_238 (by decide) (fun c238 => ?_) (fun c238 => ?_)
  · have h := ip h c238
    refine lv_iload hx hb dX11_chain_251 (lv_at hl 3 rfl) ?_
    exact w_X11_chain_253 C hR hk136 Z (lv_sub hl [0, 1, 2, 4] rfl) h
  · have h := im h c238
    refine lv_aload_n hx hb dX11_chain_241 rfl (lv_at hl 0 rfl) ?_
    refine rg_X11_49 C Z dX11_chain_242 ?_
    refine lv_iload hx hb dX11_chain_245 (lv_at hl 4 rfl) ?_
    obtain ⟨v97, hv97, h⟩ := ob h
    refine g_iald C Z iaM14 hv97 dX11_chain_247 ?_
    refine lv_goto (tgt := 253) hx hb dX11_chain_248 (by decide) ?_
    exact w_X11_chain_253 C hR hk136 Z (lv_sub hl [0, 1, 2, 4] rfl) h
set_option maxRecDepth 20000 in
theorem w_X11_chain_155 {p : Program} {l : Launch} {e : Env} {s : State} {m : MethodId} {args : Array Value} {below : List Frame} {meth : Method} {c : Code} {Q : State → Prop} {D : va_G} {kc : Nat → ClassId} {ad : Nat → Nat} {A : Nat → Prop} (C : Cx eM p s m args c cX11_chain 8 RX11 D kc A) {R : Int32 × St} {x1 : Int32} {x3 : Int32} {x4 : Int32} {x5 : Int32} (hR : RTi 0 0 p l e r_X11_chain s m args below meth c cX11_chain tM kc ad D A Q .int R.1 R.2) {k136 : Int32 → Int32 → St → Option (Int32 × St)} (hk136 : ∀ (x4 : Int32) (x5 : Int32) (σ : St) (H : Heap) (locs : List Loc) (ls : Array Slot), Dy tM kc ad D A s.heap σ H locs → lv_has ls 8 [(0, .ref (ad 0)), (1, .int x1), (3, .int x3), (4, .int x4), (5, .int x5)] → k136 x4 x5 σ = some R → W p l e r_X11_chain s m args below meth c H locs 0 0 Q (F0 m 136 ls [])) : ∀ (n : Nat) (x6 : Int32) (σ : St) (H : Heap) (locs : List Loc) (ls : Array Slot), Dy tM kc ad D A s.heap σ H locs → lv_has ls 8 [(0, .ref (ad 0)), (1, .int x1), (3, .int x3), (4, .int x4), (5, .int x5), (6, .int x6)] → f_X11_chain_155 x1 x3 x4 x5 k136 n x6 σ = some R → W p l e r_X11_chain s m args below meth c H locs 0 0 Q (F0 m 155 ls []) := by
  have hx := C.1.1
  have hb := C.1.2.1
  intro n
  induction n with
  | zero =>
    intro x6 σ H locs ls Z hl h
    exact absurd (show none = some R from h) (by simp)
  | succ n ih =>
    intro x6 σ H locs ls Z hl h
    rw [f_X11_chain_155] at h
    refine lv_iload hx hb dX11_chain_155 (lv_at hl 5 rfl) ?_
    refine lv_iload_n hx hb dX11_chain_157 rfl (lv_at hl 2 rfl) ?_
    refine lv_icmp_ge (tgt := 229) hx hb dX11_chain_158 (by decide) (fun c158 => ?_) (fun c158 => ?_)
    · have h := ip h c158
      exact w_X11_chain_229 C hR hk136 Z (lv_sub hl [0, 1, 2, 3, 4] rfl) h
    · have h := im h c158
      refine lv_aload_n hx hb dX11_chain_161 rfl (lv_at hl 0 rfl) ?_
      refine rg_X11_49 C Z dX11_chain_162 ?_
      refine lv_iload hx hb dX11_chain_165 (lv_at hl 5 rfl) ?_
      obtain ⟨v87, hv87, h⟩ := ob h
      refine g_iald C Z iaM14 hv87 dX11_chain_167 ?_
      refine lv_iconst (v := 1) hx hb dX11_chain_168 (by decide) ?_
      refine lv_iadd hx hb dX11_chain_169 ?_
      refine lv_aload_n hx hb dX11_chain_170 rfl (lv_at hl 0 rfl) ?_
      refine rg_X11_49 C Z dX11_chain_171 ?_
      refine lv_iload hx hb dX11_chain_174 (lv_at hl 4 rfl) ?_
      obtain ⟨v88, hv88, h⟩ := ob h
      refine g_iald C Z iaM14 hv88 dX11_chain_176 ?_
      refine lv_icmp_le (tgt := 223) hx hb dX11_chain_177 (by decide) (fun c177 => ?_) (fun c177 => ?_)
      · have h := ip h c177
        exact w_X11_chain_223 C hR ih hk136 Z (lv_sub hl [0, 1, 2, 3, 4, 5] rfl) h
      · have h := im h c177
        refine lv_aload_n hx hb dX11_chain_180 rfl (lv_at hl 0 rfl) ?_
        refine lv_aload_n hx hb dX11_chain_181 rfl (lv_at hl 0 rfl) ?_
        refine rg_X11_46 C Z dX11_chain_182 ?_
        refine lv_iload hx hb dX11_chain_185 (lv_at hl 4 rfl) ?_
        obtain ⟨v89, hv89, h⟩ := ob h
        refine g_iald C Z iaM13 hv89 dX11_chain_187 ?_
        refine lv_aload_n hx hb dX11_chain_188 rfl (lv_at hl 0 rfl) ?_
        refine rg_X11_46 C Z dX11_chain_189 ?_
        refine lv_iload hx hb dX11_chain_192 (lv_at hl 5 rfl) ?_
        obtain ⟨v90, hv90, h⟩ := ob h
        refine g_iald C Z iaM13 hv90 dX11_chain_194 ?_
        refine lv_aload_n hx hb dX11_chain_195 rfl (lv_at hl 0 rfl) ?_
        refine rg_X11_19 C Z dX11_chain_196 ?_
        refine lv_iload_n hx hb dX11_chain_199 rfl (lv_at hl 1 rfl) ?_
        obtain ⟨v91, hv91, h⟩ := ob h
        refine g_iald C Z iaM4 hv91 dX11_chain_200 ?_
        obtain ⟨v92, hv92, h⟩ := ob h
        refine g_callVi eM_ok C Z (k_X11_canBoth hv92) lk_X11_278 (by decide) rfl rfl hl (by decide) rfl (Nat.le_of_ble_eq_true rfl) (rest := []) rfl dX11_chain_201 (fun H locs Z => ?_)
        refine lv_if_eq (tgt := 223) hx hb dX11_chain_204 (by decide) (fun c204 => ?_) (fun c204 => ?_)
        · have h := ip h c204
          exact w_X11_chain_223 C hR ih hk136 Z (lv_sub hl [0, 1, 2, 3, 4, 5] rfl) h
        · have h := im h c204
          refine lv_aload_n hx hb dX11_chain_207 rfl (lv_at hl 0 rfl) ?_
          refine rg_X11_49 C Z dX11_chain_208 ?_
          refine lv_iload hx hb dX11_chain_211 (lv_at hl 4 rfl) ?_
          refine lv_aload_n hx hb dX11_chain_213 rfl (lv_at hl 0 rfl) ?_
          refine rg_X11_49 C Z dX11_chain_214 ?_
          refine lv_iload hx hb dX11_chain_217 (lv_at hl 5 rfl) ?_
          obtain ⟨v93, hv93, h⟩ := ob h
          refine g_iald C Z iaM14 hv93 dX11_chain_219 ?_
          refine lv_iconst (v := 1) hx hb dX11_chain_220 (by decide) ?_
          refine lv_iadd hx hb dX11_chain_221 ?_
          obtain ⟨σ94, hσ94, h⟩ := ob h
          refine g_iast C Z iaM14 hσ94 dX11_chain_222 (fun H locs Z => ?_)
          exact w_X11_chain_223 C hR ih hk136 Z (lv_sub hl [0, 1, 2, 3, 4, 5] rfl) h
set_option maxRecDepth 20000 in
theorem w_X11_chain_359 {p : Program} {l : Launch} {e : Env} {s : State} {m : MethodId} {args : Array Value} {below : List Frame} {meth : Method} {c : Code} {Q : State → Prop} {D : va_G} {kc : Nat → ClassId} {ad : Nat → Nat} {A : Nat → Prop} (C : Cx eM p s m args c cX11_chain 8 RX11 D kc A) {R : Int32 × St} {x1 : Int32} {x3 : Int32} {x4 : Int32} {x5 : Int32} {x6 : Int32} {x7 : Int32} {σ : St} (hR : RTi 0 0 p l e r_X11_chain s m args below meth c cX11_chain tM kc ad D A Q .int R.1 R.2) {k277 : Int32 → Int32 → Int32 → St → Option (Int32 × St)} (hk277 : ∀ (x5 : Int32) (x6 : Int32) (x7 : Int32) (σ : St) (H : Heap) (locs : List Loc) (ls : Array Slot), Dy tM kc ad D A s.heap σ H locs → lv_has ls 8 [(0, .ref (ad 0)), (1, .int x1), (3, .int x3), (4, .int x4), (5, .int x5), (6, .int x6), (7, .int x7)] → k277 x5 x6 x7 σ = some R → W p l e r_X11_chain s m args below meth c H locs 0 0 Q (F0 m 277 ls [])) {H : Heap} {locs : List Loc} {ls : Array Slot} (Z : Dy tM kc ad D A s.heap σ H locs) (hl : lv_has ls 8 [(0, .ref (ad 0)), (1, .int x1), (3, .int x3), (4, .int x4), (5, .int x5), (6, .int x6), (7, .int x7)]) (h : f_X11_chain_359 x1 x3 x4 x5 x6 x7 σ k277 = some R) : W p l e r_X11_chain s m args below meth c H locs 0 0 Q (F0 m 359 ls []) := by
  have hx := C.1.1
  have hb := C.1.2.1
  unfold f_X11_chain_359 at h
  obtain ⟨v108, ev108, h⟩ := lb h
  refine lv_iinc (v := v108) (lv' := [(7, .int v108), (0, .ref (ad 0)), (1, .int x1), (3, .int x3), (4, .int x4), (5, .int x5), (6, .int x6)]) hx hb dX11_chain_359 hl (k := 6) rfl (by rw [ev108]; rfl) (by decide) rfl (fun ls hl => ?_)
  refine lv_goto (tgt := 277) hx hb dX11_chain_362 (by decide) ?_
  exact hk277 _ _ _ _ _ _ _ Z (lv_sub hl [1, 2, 3, 4, 5, 6, 0] rfl) h
set_option maxRecDepth 20000 in
theorem w_X11_chain_335 {p : Program} {l : Launch} {e : Env} {s : State} {m : MethodId} {args : Array Value} {below : List Frame} {meth : Method} {c : Code} {Q : State → Prop} {D : va_G} {kc : Nat → ClassId} {ad : Nat → Nat} {A : Nat → Prop} (C : Cx eM p s m args c cX11_chain 8 RX11 D kc A) {R : Int32 × St} {x1 : Int32} {x3 : Int32} {x4 : Int32} {x6 : Int32} {x7 : Int32} {σ : St} (hR : RTi 0 0 p l e r_X11_chain s m args below meth c cX11_chain tM kc ad D A Q .int R.1 R.2) {k277 : Int32 → Int32 → Int32 → St → Option (Int32 × St)} (hk277 : ∀ (x5 : Int32) (x6 : Int32) (x7 : Int32) (σ : St) (H : Heap) (locs : List Loc) (ls : Array Slot), Dy tM kc ad D A s.heap σ H locs → lv_has ls 8 [(0, .ref (ad 0)), (1, .int x1), (3, .int x3), (4, .int x4), (5, .int x5), (6, .int x6), (7, .int x7)] → k277 x5 x6 x7 σ = some R → W p l e r_X11_chain s m args below meth c H locs 0 0 Q (F0 m 277 ls [])) {H : Heap} {locs : List Loc} {ls : Array Slot} (Z : Dy tM kc ad D A s.heap σ H locs) (hl : lv_has ls 8 [(0, .ref (ad 0)), (1, .int x1), (3, .int x3), (4, .int x4), (6, .int x6), (7, .int x7)]) (h : f_X11_chain_335 x1 x3 x4 x6 x7 σ k277 = some R) : W p l e r_X11_chain s m args below meth c H locs 0 0 Q (F0 m 335 ls []) := by
  have hx := C.1.1
  have hb := C.1.2.1
  unfold f_X11_chain_335 at h
  refine lv_aload_n hx hb dX11_chain_335 rfl (lv_at hl 0 rfl) ?_
  refine rg_X11_43 C Z dX11_chain_336 ?_
  refine lv_iload hx hb dX11_chain_339 (lv_at hl 3 rfl) ?_
  refine lv_iload hx hb dX11_chain_341 (lv_at hl 4 rfl) ?_
  refine lv_isub hx hb dX11_chain_343 ?_
  refine lv_aload_n hx hb dX11_chain_344 rfl (lv_at hl 0 rfl) ?_
  refine rg_X11_46 C Z dX11_chain_345 ?_
  refine lv_iload hx hb dX11_chain_348 (lv_at hl 5 rfl) ?_
  obtain ⟨v105, hv105, h⟩ := ob h
  refine g_iald C Z iaM13 hv105 dX11_chain_350 ?_
  obtain ⟨σ106, hσ106, h⟩ := ob h
  refine g_iast C Z iaM12 hσ106 dX11_chain_351 (fun H locs Z => ?_)
  refine lv_iload hx hb dX11_chain_352 (lv_at hl 5 rfl) ?_
  refine lv_istore (lv' := [(5, .int x7), (0, .ref (ad 0)), (1, .int x1), (3, .int x3), (4, .int x4), (6, .int x6), (7, .int x7)]) hx hb dX11_chain_354 hl (by decide) rfl (fun ls hl => ?_)
  obtain ⟨v107, ev107, h⟩ := lb h
  refine lv_iinc (v := v107) (lv' := [(6, .int v107), (5, .int x7), (0, .ref (ad 0)), (1, .int x1), (3, .int x3), (4, .int x4), (7, .int x7)]) hx hb dX11_chain_356 hl (k := 5) rfl (by rw [ev107]; rfl) (by decide) rfl (fun ls hl => ?_)
  exact w_X11_chain_359 C hR hk277 Z (lv_sub hl [2, 3, 4, 5, 1, 0, 6] rfl) h
set_option maxRecDepth 20000 in
theorem w_X11_chain_277 {p : Program} {l : Launch} {e : Env} {s : State} {m : MethodId} {args : Array Value} {below : List Frame} {meth : Method} {c : Code} {Q : State → Prop} {D : va_G} {kc : Nat → ClassId} {ad : Nat → Nat} {A : Nat → Prop} (C : Cx eM p s m args c cX11_chain 8 RX11 D kc A) {R : Int32 × St} {x1 : Int32} {x3 : Int32} {x4 : Int32} (hR : RTi 0 0 p l e r_X11_chain s m args below meth c cX11_chain tM kc ad D A Q .int R.1 R.2) : ∀ (n : Nat) (x5 : Int32) (x6 : Int32) (x7 : Int32) (σ : St) (H : Heap) (locs : List Loc) (ls : Array Slot), Dy tM kc ad D A s.heap σ H locs → lv_has ls 8 [(0, .ref (ad 0)), (1, .int x1), (3, .int x3), (4, .int x4), (5, .int x5), (6, .int x6), (7, .int x7)] → f_X11_chain_277 x1 x3 x4 n x5 x6 x7 σ = some R → W p l e r_X11_chain s m args below meth c H locs 0 0 Q (F0 m 277 ls []) := by
  have hx := C.1.1
  have hb := C.1.2.1
  intro n
  induction n with
  | zero =>
    intro x5 x6 x7 σ H locs ls Z hl h
    exact absurd (show none = some R from h) (by simp)
  | succ n ih =>
    intro x5 x6 x7 σ H locs ls Z hl h
    rw [f_X11_chain_277] at h
    refine lv_iload hx hb dX11_chain_277 (lv_at hl 6 rfl) ?_
    refine lv_iload_n hx hb dX11_chain_279 rfl (lv_at hl 2 rfl) ?_
    refine lv_icmp_ge (tgt := 365) hx hb dX11_chain_280 (by decide) (fun c280 => ?_) (fun c280 => ?_)
    · have h := ip h c280
      refine lv_iload hx hb dX11_chain_365 (lv_at hl 3 rfl) ?_
      obtain rfl := Option.some.inj h
      exact hR _ _ _ _ _ Z dX11_chain_367 rfl
    · have h := im h c280
      refine lv_iload hx hb dX11_chain_283 (lv_at hl 5 rfl) ?_
      refine lv_if_le (tgt := 365) hx hb dX11_chain_285 (by decide) (fun c285 => ?_) (fun c285 => ?_)
      · have h := ip h c285
        refine lv_iload hx hb dX11_chain_365 (lv_at hl 3 rfl) ?_
        obtain rfl := Option.some.inj h
        exact hR _ _ _ _ _ Z dX11_chain_367 rfl
      · have h := im h c285
        refine lv_aload_n hx hb dX11_chain_288 rfl (lv_at hl 0 rfl) ?_
        refine rg_X11_49 C Z dX11_chain_289 ?_
        refine lv_iload hx hb dX11_chain_292 (lv_at hl 6 rfl) ?_
        obtain ⟨v100, hv100, h⟩ := ob h
        refine g_iald C Z iaM14 hv100 dX11_chain_294 ?_
        refine lv_iload hx hb dX11_chain_295 (lv_at hl 5 rfl) ?_
        refine lv_icmp_ne (tgt := 359) hx hb dX11_chain_297 (by decide) (fun c297 => ?_) (fun c297 => ?_)
        · have h := im h c297
          exact w_X11_chain_359 C hR ih Z (lv_sub hl [0, 1, 2, 3, 4, 5, 6] rfl) h
        · have h := ip h c297
          refine lv_iload hx hb dX11_chain_300 (lv_at hl 4 rfl) ?_
          refine lv_if_lt (tgt := 335) hx hb dX11_chain_302 (by decide) (fun c302 => ?_) (fun c302 => ?_)
          · have h := ip h c302
            exact w_X11_chain_335 C hR ih Z (lv_sub hl [0, 1, 2, 3, 5, 6] rfl) h
          · have h := im h c302
            refine lv_aload_n hx hb dX11_chain_305 rfl (lv_at hl 0 rfl) ?_
            refine lv_aload_n hx hb dX11_chain_306 rfl (lv_at hl 0 rfl) ?_
            refine rg_X11_46 C Z dX11_chain_307 ?_
            refine lv_iload hx hb dX11_chain_310 (lv_at hl 4 rfl) ?_
            obtain ⟨v101, hv101, h⟩ := ob h
            refine g_iald C Z iaM13 hv101 dX11_chain_312 ?_
            refine lv_aload_n hx hb dX11_chain_313 rfl (lv_at hl 0 rfl) ?_
            refine rg_X11_46 C Z dX11_chain_314 ?_
            refine lv_iload hx hb dX11_chain_317 (lv_at hl 6 rfl) ?_
            obtain ⟨v102, hv102, h⟩ := ob h
            refine g_iald C Z iaM13 hv102 dX11_chain_319 ?_
            refine lv_aload_n hx hb dX11_chain_320 rfl (lv_at hl 0 rfl) ?_
            refine rg_X11_19 C Z dX11_chain_321 ?_
            refine lv_iload_n hx hb dX11_chain_324 rfl (lv_at hl 1 rfl) ?_
            obtain ⟨v103, hv103, h⟩ := ob h
            refine g_iald C Z iaM4 hv103 dX11_chain_325 ?_
            obtain ⟨v104, hv104, h⟩ := ob h
            refine g_callVi eM_ok C Z (k_X11_canBoth hv104) lk_X11_278 (by decide) rfl rfl hl (by decide) rfl (Nat.le_of_ble_eq_true rfl) (rest := []) rfl dX11_chain_326 (fun H locs Z => ?_)
            refine lv_if_ne (tgt := 335) hx hb dX11_chain_329 (by decide) (fun c329 => ?_) (fun c329 => ?_)
            · have h := im h c329
              exact w_X11_chain_335 C hR ih Z (lv_sub hl [0, 1, 2, 3, 5, 6] rfl) h
            · have h := ip h c329
              refine lv_goto (tgt := 359) hx hb dX11_chain_332 (by decide) ?_
              exact w_X11_chain_359 C hR ih Z (lv_sub hl [0, 1, 2, 3, 4, 5, 6] rfl) h
set_option maxRecDepth 20000 in
theorem w_X11_chain_261 {p : Program} {l : Launch} {e : Env} {s : State} {m : MethodId} {args : Array Value} {below : List Frame} {meth : Method} {c : Code} {Q : State → Prop} {D : va_G} {kc : Nat → ClassId} {ad : Nat → Nat} {A : Nat → Prop} (C : Cx eM p s m args c cX11_chain 8 RX11 D kc A) {R : Int32 × St} {x1 : Int32} {x3 : Int32} {x4 : Int32} {σ : St} (hR : RTi 0 0 p l e r_X11_chain s m args below meth c cX11_chain tM kc ad D A Q .int R.1 R.2) {H : Heap} {locs : List Loc} {ls : Array Slot} (Z : Dy tM kc ad D A s.heap σ H locs) (hl : lv_has ls 8 [(0, .ref (ad 0)), (1, .int x1), (3, .int x3), (4, .int x4)]) (h : f_X11_chain_261 x1 x3 x4 σ = some R) : W p l e r_X11_chain s m args below meth c H locs 0 0 Q (F0 m 261 ls []) := by
  have hx := C.1.1
  have hb := C.1.2.1
  unfold f_X11_chain_261 at h
  refine lv_aload_n hx hb dX11_chain_261 rfl (lv_at hl 0 rfl) ?_
  refine lv_iload hx hb dX11_chain_262 (lv_at hl 3 rfl) ?_
  obtain ⟨σ99, eσ99, h⟩ := lb h
  refine rp_X11_282 C Z eσ99 dX11_chain_264 (fun H locs Z => ?_)
  refine lv_iconst (v := (-1)) hx hb dX11_chain_267 (by decide) ?_
  refine lv_istore (lv' := [(5, .int (-1)), (0, .ref (ad 0)), (1, .int x1), (3, .int x3), (4, .int x4)]) hx hb dX11_chain_268 hl (by decide) rfl (fun ls hl => ?_)
  refine lv_iload hx hb dX11_chain_270 (lv_at hl 4 rfl) ?_
  refine lv_istore (lv' := [(6, .int x4), (5, .int (-1)), (0, .ref (ad 0)), (1, .int x1), (3, .int x3), (4, .int x4)]) hx hb dX11_chain_272 hl (by decide) rfl (fun ls hl => ?_)
  refine lv_iconst (v := 0) hx hb dX11_chain_274 (by decide) ?_
  refine lv_istore (lv' := [(7, .int 0), (6, .int x4), (5, .int (-1)), (0, .ref (ad 0)), (1, .int x1), (3, .int x3), (4, .int x4)]) hx hb dX11_chain_275 hl (by decide) rfl (fun ls hl => ?_)
  exact w_X11_chain_277 C hR _ _ _ _ _ _ _ _ Z (lv_sub hl [3, 4, 5, 6, 2, 1, 0] rfl) h
set_option maxRecDepth 20000 in
theorem w_X11_chain_136 {p : Program} {l : Launch} {e : Env} {s : State} {m : MethodId} {args : Array Value} {below : List Frame} {meth : Method} {c : Code} {Q : State → Prop} {D : va_G} {kc : Nat → ClassId} {ad : Nat → Nat} {A : Nat → Prop} (C : Cx eM p s m args c cX11_chain 8 RX11 D kc A) {R : Int32 × St} {x1 : Int32} {x3 : Int32} (hR : RTi 0 0 p l e r_X11_chain s m args below meth c cX11_chain tM kc ad D A Q .int R.1 R.2) : ∀ (n : Nat) (x4 : Int32) (x5 : Int32) (σ : St) (H : Heap) (locs : List Loc) (ls : Array Slot), Dy tM kc ad D A s.heap σ H locs → lv_has ls 8 [(0, .ref (ad 0)), (1, .int x1), (3, .int x3), (4, .int x4), (5, .int x5)] → f_X11_chain_136 x1 x3 n x4 x5 σ = some R → W p l e r_X11_chain s m args below meth c H locs 0 0 Q (F0 m 136 ls []) := by
  have hx := C.1.1
  have hb := C.1.2.1
  intro n
  induction n with
  | zero =>
    intro x4 x5 σ H locs ls Z hl h
    exact absurd (show none = some R from h) (by simp)
  | succ n ih =>
    intro x4 x5 σ H locs ls Z hl h
    rw [f_X11_chain_136] at h
    refine lv_iload hx hb dX11_chain_136 (lv_at hl 4 rfl) ?_
    refine lv_if_lt (tgt := 261) hx hb dX11_chain_138 (by decide) (fun c138 => ?_) (fun c138 => ?_)
    · have h := ip h c138
      exact w_X11_chain_261 C hR Z (lv_sub hl [0, 1, 2, 3] rfl) h
    · have h := im h c138
      refine lv_aload_n hx hb dX11_chain_141 rfl (lv_at hl 0 rfl) ?_
      refine rg_X11_49 C Z dX11_chain_142 ?_
      refine lv_iload hx hb dX11_chain_145 (lv_at hl 4 rfl) ?_
      refine lv_iconst (v := 1) hx hb dX11_chain_147 (by decide) ?_
      obtain ⟨σ85, hσ85, h⟩ := ob h
      refine g_iast C Z iaM14 hσ85 dX11_chain_148 (fun H locs Z => ?_)
      refine lv_iload hx hb dX11_chain_149 (lv_at hl 4 rfl) ?_
      refine lv_iconst (v := 1) hx hb dX11_chain_151 (by decide) ?_
      refine lv_iadd hx hb dX11_chain_152 ?_
      obtain ⟨v86, ev86, h⟩ := lb h
      refine tn_i ev86 ?_
      refine lv_istore (lv' := [(6, .int v86), (0, .ref (ad 0)), (1, .int x1), (3, .int x3), (4, .int x4), (5, .int x5)]) hx hb dX11_chain_153 hl (by decide) rfl (fun ls hl => ?_)
      exact w_X11_chain_155 C hR ih _ _ _ _ _ _ Z (lv_sub hl [1, 2, 3, 4, 5, 0] rfl) h
set_option maxRecDepth 20000 in
theorem w_X11_chain_128 {p : Program} {l : Launch} {e : Env} {s : State} {m : MethodId} {args : Array Value} {below : List Frame} {meth : Method} {c : Code} {Q : State → Prop} {D : va_G} {kc : Nat → ClassId} {ad : Nat → Nat} {A : Nat → Prop} (C : Cx eM p s m args c cX11_chain 8 RX11 D kc A) {R : Int32 × St} {x1 : Int32} {x3 : Int32} {σ : St} (hR : RTi 0 0 p l e r_X11_chain s m args below meth c cX11_chain tM kc ad D A Q .int R.1 R.2) {H : Heap} {locs : List Loc} {ls : Array Slot} (Z : Dy tM kc ad D A s.heap σ H locs) (hl : lv_has ls 8 [(0, .ref (ad 0)), (1, .int x1), (3, .int x3)]) (h : f_X11_chain_128 x1 x3 σ = some R) : W p l e r_X11_chain s m args below meth c H locs 0 0 Q (F0 m 128 ls []) := by
  have hx := C.1.1
  have hb := C.1.2.1
  unfold f_X11_chain_128 at h
  refine lv_iconst (v := 0) hx hb dX11_chain_128 (by decide) ?_
  refine lv_istore (lv' := [(4, .int 0), (0, .ref (ad 0)), (1, .int x1), (3, .int x3)]) hx hb dX11_chain_129 hl (by decide) rfl (fun ls hl => ?_)
  refine lv_iload_n hx hb dX11_chain_131 rfl (lv_at hl 3 rfl) ?_
  refine lv_iconst (v := 1) hx hb dX11_chain_132 (by decide) ?_
  refine lv_isub hx hb dX11_chain_133 ?_
  obtain ⟨v84, ev84, h⟩ := lb h
  refine tn_i ev84 ?_
  refine lv_istore (lv' := [(5, .int v84), (4, .int 0), (0, .ref (ad 0)), (1, .int x1), (3, .int x3)]) hx hb dX11_chain_134 hl (by decide) rfl (fun ls hl => ?_)
  exact w_X11_chain_136 C hR _ _ _ _ _ _ _ Z (lv_sub hl [2, 3, 4, 1, 0] rfl) h
set_option maxRecDepth 20000 in
theorem w_X11_chain_22 {p : Program} {l : Launch} {e : Env} {s : State} {m : MethodId} {args : Array Value} {below : List Frame} {meth : Method} {c : Code} {Q : State → Prop} {D : va_G} {kc : Nat → ClassId} {ad : Nat → Nat} {A : Nat → Prop} (C : Cx eM p s m args c cX11_chain 8 RX11 D kc A) {R : Int32 × St} {x1 : Int32} {x2 : Int32} (hR : RTi 0 0 p l e r_X11_chain s m args below meth c cX11_chain tM kc ad D A Q .int R.1 R.2) : ∀ (n : Nat) (x3 : Int32) (x4 : Int32) (σ : St) (H : Heap) (locs : List Loc) (ls : Array Slot), Dy tM kc ad D A s.heap σ H locs → lv_has ls 8 [(0, .ref (ad 0)), (1, .int x1), (2, .int x2), (3, .int x3), (4, .int x4)] → f_X11_chain_22 x1 x2 n x3 x4 σ = some R → W p l e r_X11_chain s m args below meth c H locs 0 0 Q (F0 m 22 ls []) := by
  have hx := C.1.1
  have hb := C.1.2.1
  intro n
  induction n with
  | zero =>
    intro x3 x4 σ H locs ls Z hl h
    exact absurd (show none = some R from h) (by simp)
  | succ n ih =>
    intro x3 x4 σ H locs ls Z hl h
    rw [f_X11_chain_22] at h
    refine lv_iload hx hb dX11_chain_22 (lv_at hl 4 rfl) ?_
    refine lv_aload_n hx hb dX11_chain_24 rfl (lv_at hl 0 rfl) ?_
    refine rg_X11_261 C Z dX11_chain_25 ?_
    refine lv_icmp_ge (tgt := 128) hx hb dX11_chain_28 (by decide) (fun c28 => ?_) (fun c28 => ?_)
    · have h := ip h c28
      exact w_X11_chain_128 C hR Z (lv_sub hl [0, 1, 3] rfl) h
    · have h := im h c28
      refine lv_aload_n hx hb dX11_chain_31 rfl (lv_at hl 0 rfl) ?_
      refine rg_X11_28 C Z dX11_chain_32 ?_
      refine lv_iload hx hb dX11_chain_35 (lv_at hl 4 rfl) ?_
      obtain ⟨v73, hv73, h⟩ := ob h
      refine g_iald C Z iaM7 hv73 dX11_chain_37 ?_
      refine lv_iload_n hx hb dX11_chain_38 rfl (lv_at hl 1 rfl) ?_
      refine lv_icmp_ne (tgt := 122) hx hb dX11_chain_39 (by decide) (fun c39 => ?_) (fun c39 => ?_)
      · have h := im h c39
        exact w_X11_chain_122 C hR ih Z (lv_sub hl [0, 1, 2, 3, 4] rfl) h
      · have h := ip h c39
        refine lv_aload_n hx hb dX11_chain_42 rfl (lv_at hl 0 rfl) ?_
        refine rg_X11_40 C Z dX11_chain_43 ?_
        refine lv_iload hx hb dX11_chain_46 (lv_at hl 4 rfl) ?_
        obtain ⟨v74, hv74, h⟩ := ob h
        refine g_iald C Z iaM11 hv74 dX11_chain_48 ?_
        refine lv_iload_n hx hb dX11_chain_49 rfl (lv_at hl 2 rfl) ?_
        refine lv_icmp_le (tgt := 56) hx hb dX11_chain_50 (by decide) (fun c50 => ?_) (fun c50 => ?_)
        · have h := ip h c50
          refine lv_iload_n hx hb dX11_chain_56 rfl (lv_at hl 3 rfl) ?_
          refine lv_istore (lv' := [(5, .int x3), (0, .ref (ad 0)), (1, .int x1), (2, .int x2), (3, .int x3), (4, .int x4)]) hx hb dX11_chain_57 hl (by decide) rfl (fun ls hl => ?_)
          exact w_X11_chain_59 C hR ih _ _ _ _ _ _ Z (lv_sub hl [1, 2, 3, 4, 5, 0] rfl) h
        · have h := im h c50
          refine lv_goto (tgt := 122) hx hb dX11_chain_53 (by decide) ?_
          exact w_X11_chain_122 C hR ih Z (lv_sub hl [0, 1, 2, 3, 4] rfl) h
set_option maxRecDepth 20000 in
theorem w_X11_chain_0 {p : Program} {l : Launch} {e : Env} {s : State} {m : MethodId} {args : Array Value} {below : List Frame} {meth : Method} {c : Code} {Q : State → Prop} {D : va_G} {kc : Nat → ClassId} {ad : Nat → Nat} {A : Nat → Prop} (C : Cx eM p s m args c cX11_chain 8 RX11 D kc A) {R : Int32 × St} {x1 : Int32} {x2 : Int32} {σ : St} (hR : RTi 0 0 p l e r_X11_chain s m args below meth c cX11_chain tM kc ad D A Q .int R.1 R.2) {H : Heap} {locs : List Loc} {ls : Array Slot} (Z : Dy tM kc ad D A s.heap σ H locs) (hl : lv_has ls 8 [(0, .ref (ad 0)), (1, .int x1), (2, .int x2)]) (h : f_X11_chain x1 x2 σ = some R) : W p l e r_X11_chain s m args below meth c H locs 0 0 Q (F0 m 0 ls []) := by
  have hx := C.1.1
  have hb := C.1.2.1
  unfold f_X11_chain at h
  refine lv_aload_n hx hb dX11_chain_0 rfl (lv_at hl 0 rfl) ?_
  refine lv_iload_n hx hb dX11_chain_1 rfl (lv_at hl 1 rfl) ?_
  refine g_callVi eM_ok C Z (k_X11_isShip x1 σ) lk_X11_264 (by decide) rfl rfl hl (by decide) rfl (Nat.le_of_ble_eq_true rfl) (rest := []) rfl dX11_chain_2 (fun H locs Z => ?_)
  refine lv_if_eq (tgt := 15) hx hb dX11_chain_5 (by decide) (fun c5 => ?_) (fun c5 => ?_)
  · have h := ip h c5
    refine lv_iconst (v := (-1)) hx hb dX11_chain_15 (by decide) ?_
    obtain rfl := Option.some.inj h
    exact hR _ _ _ _ _ Z dX11_chain_16 rfl
  · have h := im h c5
    refine lv_iload_n hx hb dX11_chain_8 rfl (lv_at hl 2 rfl) ?_
    refine g_callSi eM_ok C Z (k_X11_isMinute x2 σ) lk_X11_267 hl (by decide) rfl (Nat.le_of_ble_eq_true rfl) (rest := []) rfl dX11_chain_9 (fun H locs Z => ?_)
    refine lv_if_ne (tgt := 17) hx hb dX11_chain_12 (by decide) (fun c12 => ?_) (fun c12 => ?_)
    · have h := im h c12
      refine lv_iconst (v := 0) hx hb dX11_chain_17 (by decide) ?_
      refine lv_istore_n (lv' := [(3, .int 0), (0, .ref (ad 0)), (1, .int x1), (2, .int x2)]) hx hb dX11_chain_18 rfl hl (by decide) rfl (fun ls hl => ?_)
      refine lv_iconst (v := 0) hx hb dX11_chain_19 (by decide) ?_
      refine lv_istore (lv' := [(4, .int 0), (3, .int 0), (0, .ref (ad 0)), (1, .int x1), (2, .int x2)]) hx hb dX11_chain_20 hl (by decide) rfl (fun ls hl => ?_)
      exact w_X11_chain_22 C hR _ _ _ _ _ _ _ Z (lv_sub hl [2, 3, 4, 1, 0] rfl) h
    · have h := ip h c12
      refine lv_iconst (v := (-1)) hx hb dX11_chain_15 (by decide) ?_
      obtain rfl := Option.some.inj h
      exact hR _ _ _ _ _ Z dX11_chain_16 rfl
theorem k_X11_chain {l : Launch} {kc : Nat → ClassId} {ad : Nat → Nat} {D : va_G} {x1 : Int32} {x2 : Int32} {σ : St} {R : Int32 × St} (h : f_X11_chain x1 x2 σ = some R) : KC eM tM kc ad D l yX11_chain (.code yX11_chain cX11_chain 8 (some .int)) r_X11_chain [.ref (ad 0), .int x1, .int x2] (some (.int R.1)) σ R.2 := by
  refine g_enter (by decide) (Nat.le_of_ble_eq_true rfl) ?_
  intro p e s m args below meth c A hA C hr hlocks Z ls hl
  have hl : lv_has ls 8 [(0, .ref (ad 0)), (1, .int x1), (2, .int x2)] := hl
  exact w_X11_chain_0 C (g_RTi C.1.1 C.1.2.1 hr hlocks hA)  Z hl h
def r_X11_chained : Room := { frames := 1, cells := 0, slots := 0, locals := 25 }
set_option maxRecDepth 20000 in
theorem w_X11_chained_0 {p : Program} {l : Launch} {e : Env} {s : State} {m : MethodId} {args : Array Value} {below : List Frame} {meth : Method} {c : Code} {Q : State → Prop} {D : va_G} {kc : Nat → ClassId} {ad : Nat → Nat} {A : Nat → Prop} (C : Cx eM p s m args c cX11_chained 2 RX11 D kc A) {R : Int32} {x1 : Int32} {σ : St} (hR : RTi 0 0 p l e r_X11_chained s m args below meth c cX11_chained tM kc ad D A Q .int R σ) {H : Heap} {locs : List Loc} {ls : Array Slot} (Z : Dy tM kc ad D A s.heap σ H locs) (hl : lv_has ls 2 [(0, .ref (ad 0)), (1, .int x1)]) (h : f_X11_chained x1 σ = some R) : W p l e r_X11_chained s m args below meth c H locs 0 0 Q (F0 m 0 ls []) := by
  have hx := C.1.1
  have hb := C.1.2.1
  unfold f_X11_chained at h
  refine lv_iload_n hx hb dX11_chained_0 rfl (lv_at hl 1 rfl) ?_
  refine lv_i2l (v := x1.toInt64) hx hb dX11_chained_1 rfl ?_
  refine lv_lconst (v := 0) hx hb dX11_chained_2 (by decide) ?_
  refine lv_aload_n hx hb dX11_chained_3 rfl (lv_at hl 0 rfl) ?_
  refine rg_X11_282 C Z dX11_chained_4 ?_
  refine lv_iconst (v := 1) hx hb dX11_chained_7 (by decide) ?_
  refine lv_isub hx hb dX11_chained_8 ?_
  refine lv_i2l (v := ((gF σ 14) - 1).toInt64) hx hb dX11_chained_9 rfl ?_
  refine g_callSi eM_ok C Z (k_X11_in x1.toInt64 0 (((gF σ 14) - 1).toInt64) σ) lk_X11_233 hl (by decide) rfl (Nat.le_of_ble_eq_true rfl) (rest := []) rfl dX11_chained_10 (fun H locs Z => ?_)
  refine lv_if_eq (tgt := 25) hx hb dX11_chained_13 (by decide) (fun c13 => ?_) (fun c13 => ?_)
  · have h := ip h c13
    refine lv_iconst (v := (-1)) hx hb dX11_chained_25 (by decide) ?_
    obtain rfl := Option.some.inj h
    exact hR _ _ _ _ _ Z dX11_chained_26 rfl
  · have h := im h c13
    refine lv_aload_n hx hb dX11_chained_16 rfl (lv_at hl 0 rfl) ?_
    refine rg_X11_43 C Z dX11_chained_17 ?_
    refine lv_iload_n hx hb dX11_chained_20 rfl (lv_at hl 1 rfl) ?_
    obtain ⟨v3, hv3, h⟩ := ob h
    refine g_iald C Z iaM12 hv3 dX11_chained_21 ?_
    refine lv_goto (tgt := 26) hx hb dX11_chained_22 (by decide) ?_
    obtain rfl := Option.some.inj h
    exact hR _ _ _ _ _ Z dX11_chained_26 rfl
theorem k_X11_chained {l : Launch} {kc : Nat → ClassId} {ad : Nat → Nat} {D : va_G} {x1 : Int32} {σ : St} {R : Int32} (h : f_X11_chained x1 σ = some R) : KC eM tM kc ad D l yX11_chained (.code yX11_chained cX11_chained 2 (some .int)) r_X11_chained [.ref (ad 0), .int x1] (some (.int R)) σ σ := by
  refine g_enter (by decide) (Nat.le_of_ble_eq_true rfl) ?_
  intro p e s m args below meth c A hA C hr hlocks Z ls hl
  have hl : lv_has ls 2 [(0, .ref (ad 0)), (1, .int x1)] := hl
  exact w_X11_chained_0 C (g_RTi C.1.1 C.1.2.1 hr hlocks hA)  Z hl h
def r_X11_point : Room := { frames := 2, cells := 0, slots := 0, locals := 46 }
set_option maxRecDepth 20000 in
theorem w_X11_point_0 {p : Program} {l : Launch} {e : Env} {s : State} {m : MethodId} {args : Array Value} {below : List Frame} {meth : Method} {c : Code} {Q : State → Prop} {D : va_G} {kc : Nat → ClassId} {ad : Nat → Nat} {A : Nat → Prop} (C : Cx eM p s m args c cX11_point 4 RX11 D kc A) {R : Int32 × St} {x1 : Int32} {x2 : Int32} {x3 : Int32} {σ : St} (hR : RTi 0 0 p l e r_X11_point s m args below meth c cX11_point tM kc ad D A Q .int R.1 R.2) {H : Heap} {locs : List Loc} {ls : Array Slot} (Z : Dy tM kc ad D A s.heap σ H locs) (hl : lv_has ls 4 [(0, .ref (ad 0)), (1, .int x1), (2, .int x2), (3, .int x3)]) (h : f_X11_point x1 x2 x3 σ = some R) : W p l e r_X11_point s m args below meth c H locs 0 0 Q (F0 m 0 ls []) := by
  have hx := C.1.1
  have hb := C.1.2.1
  unfold f_X11_point at h
  refine lv_iload_n hx hb dX11_point_0 rfl (lv_at hl 1 rfl) ?_
  refine g_callSi eM_ok C Z (k_X11_isSide x1 σ) lk_X11_251 hl (by decide) rfl (Nat.le_of_ble_eq_true rfl) (rest := []) rfl dX11_point_1 (fun H locs Z => ?_)
  refine lv_if_eq (tgt := 26) hx hb dX11_point_4 (by decide) (fun c4 => ?_) (fun c4 => ?_)
  · have h := ip h c4
    refine lv_iconst (v := (-1)) hx hb dX11_point_26 (by decide) ?_
    obtain rfl := Option.some.inj h
    exact hR _ _ _ _ _ Z dX11_point_27 rfl
  · have h := im h c4
    refine lv_aload_n hx hb dX11_point_7 rfl (lv_at hl 0 rfl) ?_
    refine rg_X11_52 C Z dX11_point_8 ?_
    refine lv_iload_n hx hb dX11_point_11 rfl (lv_at hl 1 rfl) ?_
    obtain ⟨v17, hv17, h⟩ := ob h
    refine g_iald C Z iaM15 hv17 dX11_point_12 ?_
    refine lv_bipush (v := 16) hx hb dX11_point_13 (by decide) ?_
    refine lv_icmp_eq (tgt := 26) hx hb dX11_point_15 (by decide) (fun c15 => ?_) (fun c15 => ?_)
    · have h := ip h c15
      refine lv_iconst (v := (-1)) hx hb dX11_point_26 (by decide) ?_
      obtain rfl := Option.some.inj h
      exact hR _ _ _ _ _ Z dX11_point_27 rfl
    · have h := im h c15
      refine lv_iload_n hx hb dX11_point_18 rfl (lv_at hl 2 rfl) ?_
      refine lv_iload_n hx hb dX11_point_19 rfl (lv_at hl 3 rfl) ?_
      refine g_callSi eM_ok C Z (k_X11_isCell x2 x3 σ) lk_X11_242 hl (by decide) rfl (Nat.le_of_ble_eq_true rfl) (rest := []) rfl dX11_point_20 (fun H locs Z => ?_)
      refine lv_if_ne (tgt := 28) hx hb dX11_point_23 (by decide) (fun c23 => ?_) (fun c23 => ?_)
      · have h := im h c23
        refine lv_aload_n hx hb dX11_point_28 rfl (lv_at hl 0 rfl) ?_
        refine rg_X11_55 C Z dX11_point_29 ?_
        refine lv_bipush (v := 16) hx hb dX11_point_32 (by decide) ?_
        refine lv_iload_n hx hb dX11_point_34 rfl (lv_at hl 1 rfl) ?_
        refine lv_imul hx hb dX11_point_35 ?_
        refine lv_aload_n hx hb dX11_point_36 rfl (lv_at hl 0 rfl) ?_
        refine rg_X11_52 C Z dX11_point_37 ?_
        refine lv_iload_n hx hb dX11_point_40 rfl (lv_at hl 1 rfl) ?_
        obtain ⟨v18, hv18, h⟩ := ob h
        refine g_iald C Z iaM15 hv18 dX11_point_41 ?_
        refine lv_iadd hx hb dX11_point_42 ?_
        refine lv_iload_n hx hb dX11_point_43 rfl (lv_at hl 2 rfl) ?_
        obtain ⟨σ19, hσ19, h⟩ := ob h
        refine g_iast C Z iaM16 hσ19 dX11_point_44 (fun H locs Z => ?_)
        refine lv_aload_n hx hb dX11_point_45 rfl (lv_at hl 0 rfl) ?_
        refine rg_X11_58 C Z dX11_point_46 ?_
        refine lv_bipush (v := 16) hx hb dX11_point_49 (by decide) ?_
        refine lv_iload_n hx hb dX11_point_51 rfl (lv_at hl 1 rfl) ?_
        refine lv_imul hx hb dX11_point_52 ?_
        refine lv_aload_n hx hb dX11_point_53 rfl (lv_at hl 0 rfl) ?_
        refine rg_X11_52 C Z dX11_point_54 ?_
        refine lv_iload_n hx hb dX11_point_57 rfl (lv_at hl 1 rfl) ?_
        obtain ⟨v20, hv20, h⟩ := ob h
        refine g_iald C Z iaM15 hv20 dX11_point_58 ?_
        refine lv_iadd hx hb dX11_point_59 ?_
        refine lv_iload_n hx hb dX11_point_60 rfl (lv_at hl 3 rfl) ?_
        obtain ⟨σ21, hσ21, h⟩ := ob h
        refine g_iast C Z iaM17 hσ21 dX11_point_61 (fun H locs Z => ?_)
        refine lv_aload_n hx hb dX11_point_62 rfl (lv_at hl 0 rfl) ?_
        refine rg_X11_52 C Z dX11_point_63 ?_
        refine lv_iload_n hx hb dX11_point_66 rfl (lv_at hl 1 rfl) ?_
        refine lv_dup2_11 hx hb dX11_point_67 rfl rfl ?_
        obtain ⟨v22, hv22, h⟩ := ob h
        refine g_iald C Z iaM15 hv22 dX11_point_68 ?_
        refine lv_iconst (v := 1) hx hb dX11_point_69 (by decide) ?_
        refine lv_iadd hx hb dX11_point_70 ?_
        obtain ⟨σ23, hσ23, h⟩ := ob h
        refine g_iast C Z iaM15 hσ23 dX11_point_71 (fun H locs Z => ?_)
        refine lv_aload_n hx hb dX11_point_72 rfl (lv_at hl 0 rfl) ?_
        refine rg_X11_52 C Z dX11_point_73 ?_
        refine lv_iload_n hx hb dX11_point_76 rfl (lv_at hl 1 rfl) ?_
        obtain ⟨v24, hv24, h⟩ := ob h
        refine g_iald C Z iaM15 hv24 dX11_point_77 ?_
        refine lv_iconst (v := 1) hx hb dX11_point_78 (by decide) ?_
        refine lv_isub hx hb dX11_point_79 ?_
        obtain rfl := Option.some.inj h
        exact hR _ _ _ _ _ Z dX11_point_80 rfl
      · have h := ip h c23
        refine lv_iconst (v := (-1)) hx hb dX11_point_26 (by decide) ?_
        obtain rfl := Option.some.inj h
        exact hR _ _ _ _ _ Z dX11_point_27 rfl
theorem k_X11_point {l : Launch} {kc : Nat → ClassId} {ad : Nat → Nat} {D : va_G} {x1 : Int32} {x2 : Int32} {x3 : Int32} {σ : St} {R : Int32 × St} (h : f_X11_point x1 x2 x3 σ = some R) : KC eM tM kc ad D l yX11_point (.code yX11_point cX11_point 4 (some .int)) r_X11_point [.ref (ad 0), .int x1, .int x2, .int x3] (some (.int R.1)) σ R.2 := by
  refine g_enter (by decide) (Nat.le_of_ble_eq_true rfl) ?_
  intro p e s m args below meth c A hA C hr hlocks Z ls hl
  have hl : lv_has ls 4 [(0, .ref (ad 0)), (1, .int x1), (2, .int x2), (3, .int x3)] := hl
  exact w_X11_point_0 C (g_RTi C.1.1 C.1.2.1 hr hlocks hA)  Z hl h
def r_X11_chart : Room := { frames := 1, cells := 0, slots := 0, locals := 25 }
set_option maxRecDepth 20000 in
theorem w_X11_chart_0 {p : Program} {l : Launch} {e : Env} {s : State} {m : MethodId} {args : Array Value} {below : List Frame} {meth : Method} {c : Code} {Q : State → Prop} {D : va_G} {kc : Nat → ClassId} {ad : Nat → Nat} {A : Nat → Prop} (C : Cx eM p s m args c cX11_chart 3 RX11 D kc A) {R : Int32 × St} {x1 : Int32} {x2 : Int32} {σ : St} (hR : RTi 0 0 p l e r_X11_chart s m args below meth c cX11_chart tM kc ad D A Q .boolean R.1 R.2) {H : Heap} {locs : List Loc} {ls : Array Slot} (Z : Dy tM kc ad D A s.heap σ H locs) (hl : lv_has ls 3 [(0, .ref (ad 0)), (1, .int x1), (2, .int x2)]) (h : f_X11_chart x1 x2 σ = some R) : W p l e r_X11_chart s m args below meth c H locs 0 0 Q (F0 m 0 ls []) := by
  have hx := C.1.1
  have hb := C.1.2.1
  unfold f_X11_chart at h
  refine lv_iload_n hx hb dX11_chart_0 rfl (lv_at hl 1 rfl) ?_
  refine lv_i2l (v := x1.toInt64) hx hb dX11_chart_1 rfl ?_
  refine lv_ldc2 (v := (-3)) hx hb C.1.2.2.2.1 (C.1.2.2.2.2 _ wDL_X11_285) dX11_chart_2 ?_
  refine lv_ldc2 (v := 3) hx hb C.1.2.2.2.1 (C.1.2.2.2.2 _ wDL_X11_257) dX11_chart_5 ?_
  refine g_callSi eM_ok C Z (k_X11_in x1.toInt64 (-3) 3 σ) lk_X11_233 hl (by decide) rfl (Nat.le_of_ble_eq_true rfl) (rest := []) rfl dX11_chart_8 (fun H locs Z => ?_)
  refine lv_if_eq (tgt := 28) hx hb dX11_chart_11 (by decide) (fun c11 => ?_) (fun c11 => ?_)
  · have h := ip h c11
    refine lv_iconst (v := 0) hx hb dX11_chart_28 (by decide) ?_
    obtain rfl := Option.some.inj h
    exact hR _ _ _ _ _ Z dX11_chart_29 rfl
  · have h := im h c11
    refine lv_iload_n hx hb dX11_chart_14 rfl (lv_at hl 2 rfl) ?_
    refine lv_i2l (v := x2.toInt64) hx hb dX11_chart_15 rfl ?_
    refine lv_ldc2 (v := (-3)) hx hb C.1.2.2.2.1 (C.1.2.2.2.2 _ wDL_X11_285) dX11_chart_16 ?_
    refine lv_ldc2 (v := 3) hx hb C.1.2.2.2.1 (C.1.2.2.2.2 _ wDL_X11_257) dX11_chart_19 ?_
    refine g_callSi eM_ok C Z (k_X11_in x2.toInt64 (-3) 3 σ) lk_X11_233 hl (by decide) rfl (Nat.le_of_ble_eq_true rfl) (rest := []) rfl dX11_chart_22 (fun H locs Z => ?_)
    refine lv_if_ne (tgt := 30) hx hb dX11_chart_25 (by decide) (fun c25 => ?_) (fun c25 => ?_)
    · have h := im h c25
      refine lv_aload_n hx hb dX11_chart_30 rfl (lv_at hl 0 rfl) ?_
      refine lv_iload_n hx hb dX11_chart_31 rfl (lv_at hl 1 rfl) ?_
      obtain ⟨σ5, eσ5, h⟩ := lb h
      refine rp_X11_287 C Z eσ5 dX11_chart_32 (fun H locs Z => ?_)
      refine lv_aload_n hx hb dX11_chart_35 rfl (lv_at hl 0 rfl) ?_
      refine lv_iload_n hx hb dX11_chart_36 rfl (lv_at hl 2 rfl) ?_
      obtain ⟨σ6, eσ6, h⟩ := lb h
      refine rp_X11_290 C Z eσ6 dX11_chart_37 (fun H locs Z => ?_)
      refine lv_iconst (v := 1) hx hb dX11_chart_40 (by decide) ?_
      obtain rfl := Option.some.inj h
      exact hR _ _ _ _ _ Z dX11_chart_41 rfl
    · have h := ip h c25
      refine lv_iconst (v := 0) hx hb dX11_chart_28 (by decide) ?_
      obtain rfl := Option.some.inj h
      exact hR _ _ _ _ _ Z dX11_chart_29 rfl
theorem k_X11_chart {l : Launch} {kc : Nat → ClassId} {ad : Nat → Nat} {D : va_G} {x1 : Int32} {x2 : Int32} {σ : St} {R : Int32 × St} (h : f_X11_chart x1 x2 σ = some R) : KC eM tM kc ad D l yX11_chart (.code yX11_chart cX11_chart 3 (some .boolean)) r_X11_chart [.ref (ad 0), .int x1, .int x2] (some (.int R.1)) σ R.2 := by
  refine g_enter (by decide) (Nat.le_of_ble_eq_true rfl) ?_
  intro p e s m args below meth c A hA C hr hlocks Z ls hl
  have hl : lv_has ls 3 [(0, .ref (ad 0)), (1, .int x1), (2, .int x2)] := hl
  exact w_X11_chart_0 C (g_RTi C.1.1 C.1.2.1 hr hlocks hA)  Z hl h
def r_X11_isNear : Room := { frames := 0, cells := 0, slots := 0, locals := 0 }
set_option maxRecDepth 20000 in
theorem w_X11_isNear_6 {p : Program} {l : Launch} {e : Env} {s : State} {m : MethodId} {args : Array Value} {below : List Frame} {meth : Method} {c : Code} {Q : State → Prop} {D : va_G} {kc : Nat → ClassId} {ad : Nat → Nat} {A : Nat → Prop} (C : Cx eM p s m args c cX11_isNear 9 RX11 D kc A) {R : Int32} {x1 : Int32} {x2 : Int32} {x3 : Int32} {x4 : Int32} {x5 : Int32} {σ : St} (hR : RTi 0 0 p l e r_X11_isNear s m args below meth c cX11_isNear tM kc ad D A Q .boolean R σ) : ∀ (n : Nat) (x6 : Int32) (H : Heap) (locs : List Loc) (ls : Array Slot), Dy tM kc ad D A s.heap σ H locs → lv_has ls 9 [(0, .ref (ad 0)), (1, .int x1), (2, .int x2), (3, .int x3), (4, .int x4), (5, .int x5), (6, .int x6)] → f_X11_isNear_6 x1 x2 x3 x4 x5 σ n x6 = some R → W p l e r_X11_isNear s m args below meth c H locs 0 0 Q (F0 m 6 ls []) := by
  have hx := C.1.1
  have hb := C.1.2.1
  intro n
  induction n with
  | zero =>
    intro x6 H locs ls Z hl h
    exact absurd (show none = some R from h) (by simp)
  | succ n ih =>
    intro x6 H locs ls Z hl h
    rw [f_X11_isNear_6] at h
    refine lv_iload hx hb dX11_isNear_6 (lv_at hl 6 rfl) ?_
    refine lv_bipush (v := 16) hx hb dX11_isNear_8 (by decide) ?_
    refine lv_iload_n hx hb dX11_isNear_10 rfl (lv_at hl 1 rfl) ?_
    refine lv_imul hx hb dX11_isNear_11 ?_
    refine lv_aload_n hx hb dX11_isNear_12 rfl (lv_at hl 0 rfl) ?_
    refine rg_X11_52 C Z dX11_isNear_13 ?_
    refine lv_iload_n hx hb dX11_isNear_16 rfl (lv_at hl 1 rfl) ?_
    obtain ⟨v16, hv16, h⟩ := ob h
    refine g_iald C Z iaM15 hv16 dX11_isNear_17 ?_
    refine lv_iadd hx hb dX11_isNear_18 ?_
    refine lv_icmp_ge (tgt := 100) hx hb dX11_isNear_19 (by decide) (fun c19 => ?_) (fun c19 => ?_)
    · have h := ip h c19
      refine lv_iconst (v := 0) hx hb dX11_isNear_100 (by decide) ?_
      obtain rfl := Option.some.inj h
      exact hR _ _ _ _ _ Z dX11_isNear_101 rfl
    · have h := im h c19
      refine lv_iload_n hx hb dX11_isNear_22 rfl (lv_at hl 3 rfl) ?_
      refine lv_aload_n hx hb dX11_isNear_23 rfl (lv_at hl 0 rfl) ?_
      refine rg_X11_55 C Z dX11_isNear_24 ?_
      refine lv_iload hx hb dX11_isNear_27 (lv_at hl 6 rfl) ?_
      obtain ⟨v17, hv17, h⟩ := ob h
      refine g_iald C Z iaM16 hv17 dX11_isNear_29 ?_
      refine lv_isub hx hb dX11_isNear_30 ?_
      refine lv_iload_n hx hb dX11_isNear_31 rfl (lv_at hl 2 rfl) ?_
      refine lv_iconst (v := 1) hx hb dX11_isNear_32 (by decide) ?_
      obtain ⟨v18, ev18, h⟩ := lb h
      have hj : W p l e r_X11_isNear s m args below meth c H locs 0 0 Q (F0 m 44 ls [.int v18, .int (x3 - v17)]) := by
        refine lv_isub hx hb dX11_isNear_44 ?_
        obtain ⟨v19, ev19, h⟩ := lb h
        refine tn_i ev19 ?_
        refine lv_istore (lv' := [(7, .int v19), (0, .ref (ad 0)), (1, .int x1), (2, .int x2), (3, .int x3), (4, .int x4), (5, .int x5), (6, .int x6)]) hx hb dX11_isNear_45 hl (by decide) rfl (fun ls hl => ?_)
        refine lv_iload hx hb dX11_isNear_47 (lv_at hl 5 rfl) ?_
        refine lv_aload_n hx hb dX11_isNear_49 rfl (lv_at hl 1 rfl) ?_
        refine rg_X11_58 C Z dX11_isNear_50 ?_
        refine lv_iload hx hb dX11_isNear_53 (lv_at hl 7 rfl) ?_
        obtain ⟨v20, hv20, h⟩ := ob h
        refine g_iald C Z iaM17 hv20 dX11_isNear_55 ?_
        refine lv_isub hx hb dX11_isNear_56 ?_
        refine lv_iload_n hx hb dX11_isNear_57 rfl (lv_at hl 3 rfl) ?_
        refine lv_iconst (v := 1) hx hb dX11_isNear_58 (by decide) ?_
        obtain ⟨v21, ev21, h⟩ := lb h
        have hj : W p l e r_X11_isNear s m args below meth c H locs 0 0 Q (F0 m 70 ls [.int v21, .int (x4 - v20)]) := by
          refine lv_isub hx hb dX11_isNear_70 ?_
          obtain ⟨v22, ev22, h⟩ := lb h
          refine tn_i ev22 ?_
          refine lv_istore (lv' := [(8, .int v22), (7, .int v19), (0, .ref (ad 0)), (1, .int x1), (2, .int x2), (3, .int x3), (4, .int x4), (5, .int x5), (6, .int x6)]) hx hb dX11_isNear_71 hl (by decide) rfl (fun ls hl => ?_)
          refine lv_iload hx hb dX11_isNear_73 (lv_at hl 1 rfl) ?_
          refine lv_iload hx hb dX11_isNear_75 (lv_at hl 1 rfl) ?_
          refine lv_imul hx hb dX11_isNear_77 ?_
          refine lv_iload hx hb dX11_isNear_78 (lv_at hl 0 rfl) ?_
          refine lv_iload hx hb dX11_isNear_80 (lv_at hl 0 rfl) ?_
          refine lv_imul hx hb dX11_isNear_82 ?_
          refine lv_iadd hx hb dX11_isNear_83 ?_
          refine lv_iload hx hb dX11_isNear_84 (lv_at hl 7 rfl) ?_
          refine lv_iload hx hb dX11_isNear_86 (lv_at hl 7 rfl) ?_
          refine lv_imul hx hb dX11_isNear_88 ?_
          refine lv_icmp_gt (tgt := 94) hx hb dX11_isNear_89 (by decide) (fun c89 => ?_) (fun c89 => ?_)
          · have h := ip h c89
            obtain ⟨v23, ev23, h⟩ := lb h
            refine lv_iinc (v := v23) (lv' := [(6, .int v23), (8, .int v22), (7, .int v19), (0, .ref (ad 0)), (1, .int x1), (2, .int x2), (3, .int x3), (4, .int x4), (5, .int x5)]) hx hb dX11_isNear_94 hl (k := 8) rfl (by rw [ev23]; rfl) (by decide) rfl (fun ls hl => ?_)
            refine lv_goto (tgt := 6) hx hb dX11_isNear_97 (by decide) ?_
            exact ih _ _ _ _ Z (lv_sub hl [3, 4, 5, 6, 7, 8, 0] rfl) h
          · have h := im h c89
            refine lv_iconst (v := 1) hx hb dX11_isNear_92 (by decide) ?_
            obtain rfl := Option.some.inj h
            exact hR _ _ _ _ _ Z dX11_isNear_93 rfl
        refine lv_icmp_ne (tgt := 69) hx hb dX11_isNear_59 (by decide) (fun c59 => ?_) (fun c59 => ?_)
        · rw [if_neg c59] at ev21
          refine lv_iconst (v := 0) hx hb dX11_isNear_69 (by decide) ?_
          exact tn_i ev21 hj
        · rw [if_pos c59] at ev21
          refine lv_aload_n hx hb dX11_isNear_62 rfl (lv_at hl 1 rfl) ?_
          refine rg_X11_290 C Z dX11_isNear_63 ?_
          refine lv_goto (tgt := 70) hx hb dX11_isNear_66 (by decide) ?_
          exact tn_i ev21 hj
      refine lv_icmp_ne (tgt := 43) hx hb dX11_isNear_33 (by decide) (fun c33 => ?_) (fun c33 => ?_)
      · rw [if_neg c33] at ev18
        refine lv_iconst (v := 0) hx hb dX11_isNear_43 (by decide) ?_
        exact tn_i ev18 hj
      · rw [if_pos c33] at ev18
        refine lv_aload_n hx hb dX11_isNear_36 rfl (lv_at hl 0 rfl) ?_
        refine rg_X11_287 C Z dX11_isNear_37 ?_
        refine lv_goto (tgt := 44) hx hb dX11_isNear_40 (by decide) ?_
        exact tn_i ev18 hj
set_option maxRecDepth 20000 in
theorem w_X11_isNear_0 {p : Program} {l : Launch} {e : Env} {s : State} {m : MethodId} {args : Array Value} {below : List Frame} {meth : Method} {c : Code} {Q : State → Prop} {D : va_G} {kc : Nat → ClassId} {ad : Nat → Nat} {A : Nat → Prop} (C : Cx eM p s m args c cX11_isNear 9 RX11 D kc A) {R : Int32} {x1 : Int32} {x2 : Int32} {x3 : Int32} {x4 : Int32} {x5 : Int32} {σ : St} (hR : RTi 0 0 p l e r_X11_isNear s m args below meth c cX11_isNear tM kc ad D A Q .boolean R σ) {H : Heap} {locs : List Loc} {ls : Array Slot} (Z : Dy tM kc ad D A s.heap σ H locs) (hl : lv_has ls 9 [(0, .ref (ad 0)), (1, .int x1), (2, .int x2), (3, .int x3), (4, .int x4), (5, .int x5)]) (h : f_X11_isNear x1 x2 x3 x4 x5 σ = some R) : W p l e r_X11_isNear s m args below meth c H locs 0 0 Q (F0 m 0 ls []) := by
  have hx := C.1.1
  have hb := C.1.2.1
  unfold f_X11_isNear at h
  refine lv_bipush (v := 16) hx hb dX11_isNear_0 (by decide) ?_
  refine lv_iload_n hx hb dX11_isNear_2 rfl (lv_at hl 1 rfl) ?_
  refine lv_imul hx hb dX11_isNear_3 ?_
  obtain ⟨v15, ev15, h⟩ := lb h
  refine tn_i ev15 ?_
  refine lv_istore (lv' := [(6, .int v15), (0, .ref (ad 0)), (1, .int x1), (2, .int x2), (3, .int x3), (4, .int x4), (5, .int x5)]) hx hb dX11_isNear_4 hl (by decide) rfl (fun ls hl => ?_)
  exact w_X11_isNear_6 C hR _ _ _ _ _ Z (lv_sub hl [1, 2, 3, 4, 5, 6, 0] rfl) h
theorem k_X11_isNear {l : Launch} {kc : Nat → ClassId} {ad : Nat → Nat} {D : va_G} {x1 : Int32} {x2 : Int32} {x3 : Int32} {x4 : Int32} {x5 : Int32} {σ : St} {R : Int32} (h : f_X11_isNear x1 x2 x3 x4 x5 σ = some R) : KC eM tM kc ad D l yX11_isNear (.code yX11_isNear cX11_isNear 9 (some .boolean)) r_X11_isNear [.ref (ad 0), .int x1, .int x2, .int x3, .int x4, .int x5] (some (.int R)) σ σ := by
  refine g_enter (by decide) (Nat.le_of_ble_eq_true rfl) ?_
  intro p e s m args below meth c A hA C hr hlocks Z ls hl
  have hl : lv_has ls 9 [(0, .ref (ad 0)), (1, .int x1), (2, .int x2), (3, .int x3), (4, .int x4), (5, .int x5)] := hl
  exact w_X11_isNear_0 C (g_RTi C.1.1 C.1.2.1 hr hlocks hA)  Z hl h
def r_X11_asks : Room := { frames := 0, cells := 0, slots := 0, locals := 0 }
set_option maxRecDepth 20000 in
theorem w_X11_asks_0 {p : Program} {l : Launch} {e : Env} {s : State} {m : MethodId} {args : Array Value} {below : List Frame} {meth : Method} {c : Code} {Q : State → Prop} {D : va_G} {kc : Nat → ClassId} {ad : Nat → Nat} {A : Nat → Prop} (C : Cx eM p s m args c cX11_asks 6 RX11 D kc A) {R : St} {x1 : Int32} {x2 : Int32} {x3 : Int32} {x4 : Int32} {x5 : Int32} {σ : St} (hR : RTv 0 0 p l e r_X11_asks s m args below meth c cX11_asks tM kc ad D A Q R) {H : Heap} {locs : List Loc} {ls : Array Slot} (Z : Dy tM kc ad D A s.heap σ H locs) (hl : lv_has ls 6 [(0, .ref (ad 0)), (1, .int x1), (2, .int x2), (3, .int x3), (4, .int x4), (5, .int x5)]) (h : f_X11_asks x1 x2 x3 x4 x5 σ = some R) : W p l e r_X11_asks s m args below meth c H locs 0 0 Q (F0 m 0 ls []) := by
  have hx := C.1.1
  have hb := C.1.2.1
  unfold f_X11_asks at h
  refine lv_aload_n hx hb dX11_asks_0 rfl (lv_at hl 0 rfl) ?_
  refine lv_iload_n hx hb dX11_asks_1 rfl (lv_at hl 1 rfl) ?_
  obtain ⟨σ6, eσ6, h⟩ := lb h
  refine rp_X11_439 C Z eσ6 dX11_asks_2 (fun H locs Z => ?_)
  refine lv_aload_n hx hb dX11_asks_5 rfl (lv_at hl 0 rfl) ?_
  refine lv_iload_n hx hb dX11_asks_6 rfl (lv_at hl 2 rfl) ?_
  obtain ⟨σ7, eσ7, h⟩ := lb h
  refine rp_X11_442 C Z eσ7 dX11_asks_7 (fun H locs Z => ?_)
  refine lv_aload_n hx hb dX11_asks_10 rfl (lv_at hl 0 rfl) ?_
  refine lv_iload_n hx hb dX11_asks_11 rfl (lv_at hl 3 rfl) ?_
  obtain ⟨σ8, eσ8, h⟩ := lb h
  refine rp_X11_445 C Z eσ8 dX11_asks_12 (fun H locs Z => ?_)
  refine lv_aload_n hx hb dX11_asks_15 rfl (lv_at hl 0 rfl) ?_
  refine lv_iload hx hb dX11_asks_16 (lv_at hl 4 rfl) ?_
  obtain ⟨σ9, eσ9, h⟩ := lb h
  refine rp_X11_448 C Z eσ9 dX11_asks_18 (fun H locs Z => ?_)
  refine lv_aload_n hx hb dX11_asks_21 rfl (lv_at hl 0 rfl) ?_
  refine lv_iload hx hb dX11_asks_22 (lv_at hl 5 rfl) ?_
  obtain ⟨σ10, eσ10, h⟩ := lb h
  refine rp_X11_451 C Z eσ10 dX11_asks_24 (fun H locs Z => ?_)
  obtain rfl := Option.some.inj h
  exact hR _ _ _ _ Z dX11_asks_27
theorem k_X11_asks {l : Launch} {kc : Nat → ClassId} {ad : Nat → Nat} {D : va_G} {x1 : Int32} {x2 : Int32} {x3 : Int32} {x4 : Int32} {x5 : Int32} {σ : St} {R : St} (h : f_X11_asks x1 x2 x3 x4 x5 σ = some R) : KC eM tM kc ad D l yX11_asks (.code yX11_asks cX11_asks 6 none) r_X11_asks [.ref (ad 0), .int x1, .int x2, .int x3, .int x4, .int x5] none σ R := by
  refine g_enter (by decide) (Nat.le_of_ble_eq_true rfl) ?_
  intro p e s m args below meth c A hA C hr hlocks Z ls hl
  have hl : lv_has ls 6 [(0, .ref (ad 0)), (1, .int x1), (2, .int x2), (3, .int x3), (4, .int x4), (5, .int x5)] := hl
  exact w_X11_asks_0 C (g_RTv C.1.1 C.1.2.1 hr hlocks hA)  Z hl h
