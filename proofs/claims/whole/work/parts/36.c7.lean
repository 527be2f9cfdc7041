def r_X10_point : Room := { frames := 3, cells := 0, slots := 0, locals := 66 }
set_option maxRecDepth 20000 in
theorem w_X10_point_0 {p : Program} {l : Launch} {e : Env} {s : State} {m : MethodId} {args : Array Value} {below : List Frame} {meth : Method} {c : Code} {Q : State → Prop} {D : va_G} {kc : Nat → ClassId} {ad : Nat → Nat} {A : Nat → Prop} {adK adV : Nat → Nat} (C : Cx (eC adK adV) p s m args c cX10_point 4 RX10 D kc A) {R : Int32 × St} {x1 : Int32} {x2 : Int32} {x3 : Int32} {σ : St} (hR : RTi 0 0 p l e r_X10_point s m args below meth c cX10_point tC kc ad D A Q .int R.1 R.2) {H : Heap} {locs : List Loc} {ls : Array Slot} (Z : Dy tC kc ad D A s.heap σ H locs) (hl : lv_has ls 4 [(0, .ref (ad 0)), (1, .int x1), (2, .int x2), (3, .int x3)]) (h : f_X10_point x1 x2 x3 σ = some R) : W p l e r_X10_point s m args below meth c H locs 0 0 Q (F0 m 0 ls []) := by
  have hx := C.1.1
  have hb := C.1.2.1
  unfold f_X10_point at h
  refine lv_iload_n hx hb dX10_point_0 rfl (lv_at hl 1 rfl) ?_
  refine g_callSi (eC_ok adK adV) C Z (k_X10_isSide x1 σ) lk_X10_111 hl (by decide) rfl (Nat.le_of_ble_eq_true rfl) (rest := []) rfl dX10_point_1 (fun H locs Z => ?_)
  refine lv_if_eq (tgt := 15) hx hb dX10_point_4 (by decide) (fun c4 => ?_) (fun c4 => ?_)
  · have h := ip h c4
    refine lv_iconst (v := (-1)) hx hb dX10_point_15 (by decide) ?_
    obtain rfl := Option.some.inj h
    exact hR _ _ _ _ _ Z dX10_point_16 rfl
  · have h := im h c4
    refine lv_iload_n hx hb dX10_point_7 rfl (lv_at hl 2 rfl) ?_
    refine lv_iload_n hx hb dX10_point_8 rfl (lv_at hl 3 rfl) ?_
    refine g_callSi (eC_ok adK adV) C Z (k_X6_isCell x2 x3 σ) lk_X10_103 hl (by decide) rfl (Nat.le_of_ble_eq_true rfl) (rest := []) rfl dX10_point_9 (fun H locs Z => ?_)
    refine lv_if_ne (tgt := 17) hx hb dX10_point_12 (by decide) (fun c12 => ?_) (fun c12 => ?_)
    · have h := im h c12
      refine lv_aload_n hx hb dX10_point_17 rfl (lv_at hl 0 rfl) ?_
      refine rg_X10_16 C Z dX10_point_18 ?_
      refine lv_iload_n hx hb dX10_point_21 rfl (lv_at hl 1 rfl) ?_
      refine lv_iload_n hx hb dX10_point_22 rfl (lv_at hl 2 rfl) ?_
      refine lv_iload_n hx hb dX10_point_23 rfl (lv_at hl 3 rfl) ?_
      obtain ⟨u3, hu3, h⟩ := ob h
      refine g_callVi (eC_ok adK adV) C Z (k_X6_addPoint hu3) lk_X10_141 (by decide) rfl rfl hl (by decide) rfl (Nat.le_of_ble_eq_true rfl) (rest := []) rfl dX10_point_24 (fun H locs Z => ?_)
      obtain rfl := Option.some.inj h
      exact hR _ _ _ _ _ Z dX10_point_27 rfl
    · have h := ip h c12
      refine lv_iconst (v := (-1)) hx hb dX10_point_15 (by decide) ?_
      obtain rfl := Option.some.inj h
      exact hR _ _ _ _ _ Z dX10_point_16 rfl
theorem k_X10_point {l : Launch} {kc : Nat → ClassId} {ad : Nat → Nat} {D : va_G} {adK adV : Nat → Nat} {x1 : Int32} {x2 : Int32} {x3 : Int32} {σ : St} {R : Int32 × St} (h : f_X10_point x1 x2 x3 σ = some R) : KC (eC adK adV) tC kc ad D l yX10_point (.code yX10_point cX10_point 4 (some .int)) r_X10_point [.ref (ad 0), .int x1, .int x2, .int x3] (some (.int R.1)) σ R.2 := by
  refine g_enter (by decide) (Nat.le_of_ble_eq_true rfl) ?_
  intro p e s m args below meth c A hA C hr hlocks Z ls hl
  have hl : lv_has ls 4 [(0, .ref (ad 0)), (1, .int x1), (2, .int x2), (3, .int x3)] := hl
  exact w_X10_point_0 C (g_RTi C.1.1 C.1.2.1 hr hlocks hA)  Z hl h
def r_X10_chart : Room := { frames := 1, cells := 0, slots := 0, locals := 22 }
set_option maxRecDepth 20000 in
theorem w_X10_chart_0 {p : Program} {l : Launch} {e : Env} {s : State} {m : MethodId} {args : Array Value} {below : List Frame} {meth : Method} {c : Code} {Q : State → Prop} {D : va_G} {kc : Nat → ClassId} {ad : Nat → Nat} {A : Nat → Prop} {adK adV : Nat → Nat} (C : Cx (eC adK adV) p s m args c cX10_chart 3 RX10 D kc A) {R : Int32 × St} {x1 : Int32} {x2 : Int32} {σ : St} (hR : RTi 0 0 p l e r_X10_chart s m args below meth c cX10_chart tC kc ad D A Q .boolean R.1 R.2) {H : Heap} {locs : List Loc} {ls : Array Slot} (Z : Dy tC kc ad D A s.heap σ H locs) (hl : lv_has ls 3 [(0, .ref (ad 0)), (1, .int x1), (2, .int x2)]) (h : f_X10_chart x1 x2 σ = some R) : W p l e r_X10_chart s m args below meth c H locs 0 0 Q (F0 m 0 ls []) := by
  have hx := C.1.1
  have hb := C.1.2.1
  unfold f_X10_chart at h
  refine lv_iload_n hx hb dX10_chart_0 rfl (lv_at hl 1 rfl) ?_
  refine lv_bipush (v := (-3)) hx hb dX10_chart_1 (by decide) ?_
  refine lv_iconst (v := 3) hx hb dX10_chart_3 (by decide) ?_
  refine g_callSi (eC_ok adK adV) C Z (k_X10_lies x1 (-3) 3 σ) lk_X10_99 hl (by decide) rfl (Nat.le_of_ble_eq_true rfl) (rest := []) rfl dX10_chart_4 (fun H locs Z => ?_)
  refine lv_if_eq (tgt := 20) hx hb dX10_chart_7 (by decide) (fun c7 => ?_) (fun c7 => ?_)
  · have h := ip h c7
    refine lv_iconst (v := 0) hx hb dX10_chart_20 (by decide) ?_
    obtain rfl := Option.some.inj h
    exact hR _ _ _ _ _ Z dX10_chart_21 rfl
  · have h := im h c7
    refine lv_iload_n hx hb dX10_chart_10 rfl (lv_at hl 2 rfl) ?_
    refine lv_bipush (v := (-3)) hx hb dX10_chart_11 (by decide) ?_
    refine lv_iconst (v := 3) hx hb dX10_chart_13 (by decide) ?_
    refine g_callSi (eC_ok adK adV) C Z (k_X10_lies x2 (-3) 3 σ) lk_X10_99 hl (by decide) rfl (Nat.le_of_ble_eq_true rfl) (rest := []) rfl dX10_chart_14 (fun H locs Z => ?_)
    refine lv_if_ne (tgt := 22) hx hb dX10_chart_17 (by decide) (fun c17 => ?_) (fun c17 => ?_)
    · have h := im h c17
      refine lv_aload_n hx hb dX10_chart_22 rfl (lv_at hl 0 rfl) ?_
      refine rg_X10_16 C Z dX10_chart_23 ?_
      refine lv_iload_n hx hb dX10_chart_26 rfl (lv_at hl 1 rfl) ?_
      obtain ⟨σ5, eσ5, h⟩ := lb h
      refine rp_X10_144 C Z eσ5 dX10_chart_27 (fun H locs Z => ?_)
      refine lv_aload_n hx hb dX10_chart_30 rfl (lv_at hl 0 rfl) ?_
      refine rg_X10_16 C Z dX10_chart_31 ?_
      refine lv_iload_n hx hb dX10_chart_34 rfl (lv_at hl 2 rfl) ?_
      obtain ⟨σ6, eσ6, h⟩ := lb h
      refine rp_X10_147 C Z eσ6 dX10_chart_35 (fun H locs Z => ?_)
      refine lv_iconst (v := 1) hx hb dX10_chart_38 (by decide) ?_
      obtain rfl := Option.some.inj h
      exact hR _ _ _ _ _ Z dX10_chart_39 rfl
    · have h := ip h c17
      refine lv_iconst (v := 0) hx hb dX10_chart_20 (by decide) ?_
      obtain rfl := Option.some.inj h
      exact hR _ _ _ _ _ Z dX10_chart_21 rfl
theorem k_X10_chart {l : Launch} {kc : Nat → ClassId} {ad : Nat → Nat} {D : va_G} {adK adV : Nat → Nat} {x1 : Int32} {x2 : Int32} {σ : St} {R : Int32 × St} (h : f_X10_chart x1 x2 σ = some R) : KC (eC adK adV) tC kc ad D l yX10_chart (.code yX10_chart cX10_chart 3 (some .boolean)) r_X10_chart [.ref (ad 0), .int x1, .int x2] (some (.int R.1)) σ R.2 := by
  refine g_enter (by decide) (Nat.le_of_ble_eq_true rfl) ?_
  intro p e s m args below meth c A hA C hr hlocks Z ls hl
  have hl : lv_has ls 3 [(0, .ref (ad 0)), (1, .int x1), (2, .int x2)] := hl
  exact w_X10_chart_0 C (g_RTi C.1.1 C.1.2.1 hr hlocks hA)  Z hl h
def r_X10_reachOf : Room := { frames := 4, cells := 0, slots := 0, locals := 101 }
set_option maxRecDepth 20000 in
theorem w_X10_reachOf_0 {p : Program} {l : Launch} {e : Env} {s : State} {m : MethodId} {args : Array Value} {below : List Frame} {meth : Method} {c : Code} {Q : State → Prop} {D : va_G} {kc : Nat → ClassId} {ad : Nat → Nat} {A : Nat → Prop} {adK adV : Nat → Nat} (C : Cx (eC adK adV) p s m args c cX10_reachOf 6 RX10 D kc A) {R : Int32 × St} {x1 : Int32} {x2 : Int32} {σ : St} (hR : RTi 0 0 p l e r_X10_reachOf s m args below meth c cX10_reachOf tC kc ad D A Q .int R.1 R.2) {H : Heap} {locs : List Loc} {ls : Array Slot} (Z : Dy tC kc ad D A s.heap σ H locs) (hl : lv_has ls 6 [(0, .ref (ad 0)), (1, .int x1), (2, .int x2)]) (h : f_X10_reachOf x1 x2 σ = some R) : W p l e r_X10_reachOf s m args below meth c H locs 0 0 Q (F0 m 0 ls []) := by
  have hx := C.1.1
  have hb := C.1.2.1
  unfold f_X10_reachOf at h
  refine lv_aload_n hx hb dX10_reachOf_0 rfl (lv_at hl 0 rfl) ?_
  refine rg_X10_54 C Z dX10_reachOf_1 ?_
  refine lv_lconst (v := 0) hx hb dX10_reachOf_4 (by decide) ?_
  obtain ⟨σ9, hσ9, h⟩ := ob h
  refine g_callSv (eC_ok adK adV) C Z (k_J7_fill_d0a16 iaC12 hσ9) lk_X10_154 hl (by decide) rfl (Nat.le_of_ble_eq_true rfl) (rest := []) rfl dX10_reachOf_5 (fun H locs Z => ?_)
  refine lv_aload_n hx hb dX10_reachOf_8 rfl (lv_at hl 0 rfl) ?_
  refine rg_X10_54 C Z dX10_reachOf_9 ?_
  refine lv_iconst (v := 0) hx hb dX10_reachOf_12 (by decide) ?_
  refine lv_iload_n hx hb dX10_reachOf_13 rfl (lv_at hl 2 rfl) ?_
  refine lv_i2l (v := x2.toInt64) hx hb dX10_reachOf_14 rfl ?_
  obtain ⟨σ10, hσ10, h⟩ := ob h
  refine g_last C Z iaC12 hσ10 dX10_reachOf_15 (fun H locs Z => ?_)
  refine lv_aload_n hx hb dX10_reachOf_16 rfl (lv_at hl 0 rfl) ?_
  refine rg_X10_37 C Z dX10_reachOf_17 ?_
  refine lv_iload_n hx hb dX10_reachOf_20 rfl (lv_at hl 1 rfl) ?_
  refine lv_iconst (v := 5) hx hb dX10_reachOf_21 (by decide) ?_
  refine lv_iload_n hx hb dX10_reachOf_22 rfl (lv_at hl 2 rfl) ?_
  refine lv_aload_n hx hb dX10_reachOf_23 rfl (lv_at hl 0 rfl) ?_
  refine rg_X10_54 C Z dX10_reachOf_24 ?_
  obtain ⟨u11, hu11, h⟩ := ob h
  refine g_callVi (eC_ok adK adV) C Z (k_X2_findClause iaC12 hu11) lk_X10_160 (by decide) rfl rfl hl (by decide) rfl (Nat.le_of_ble_eq_true rfl) (rest := []) rfl dX10_reachOf_27 (fun H locs Z => ?_)
  refine lv_istore_n (lv' := [(3, .int u11.1), (0, .ref (ad 0)), (1, .int x1), (2, .int x2)]) hx hb dX10_reachOf_30 rfl hl (by decide) rfl (fun ls hl => ?_)
  refine lv_iload_n hx hb dX10_reachOf_31 rfl (lv_at hl 0 rfl) ?_
  refine lv_iconst (v := (-1)) hx hb dX10_reachOf_32 (by decide) ?_
  refine lv_icmp_ne (tgt := 38) hx hb dX10_reachOf_33 (by decide) (fun c33 => ?_) (fun c33 => ?_)
  · have h := im h c33
    refine lv_aload_n hx hb dX10_reachOf_38 rfl (lv_at hl 1 rfl) ?_
    refine rg_X10_37 C Z dX10_reachOf_39 ?_
    refine lv_iload_n hx hb dX10_reachOf_42 rfl (lv_at hl 0 rfl) ?_
    refine lv_aload_n hx hb dX10_reachOf_43 rfl (lv_at hl 1 rfl) ?_
    refine rg_X10_54 C Z dX10_reachOf_44 ?_
    obtain ⟨u12, hu12, h⟩ := ob h
    refine g_callVl (eC_ok adK adV) C Z (k_X2_sumOf iaC12 hu12) lk_X10_164 (by decide) rfl rfl hl (by decide) rfl (Nat.le_of_ble_eq_true rfl) (rest := []) rfl dX10_reachOf_47 (fun H locs Z => ?_)
    refine lv_lstore (lv' := [(4, .long u12.1), (3, .int u11.1), (0, .ref (ad 0)), (1, .int x1), (2, .int x2)]) hx hb dX10_reachOf_50 hl (by decide) rfl (fun ls hl => ?_)
    refine lv_lconst (v := 0) hx hb dX10_reachOf_52 (by decide) ?_
    refine lv_ldc2 (v := 40) hx hb C.1.2.2.2.1 (C.1.2.2.2.2 _ wDL_X10_168) dX10_reachOf_53 ?_
    refine lv_lload hx hb dX10_reachOf_56 (lv_at hl 0 rfl) ?_
    refine g_min_f86c9 C hl wM_X10_170 (by decide) (rest := [.long 0]) (Nat.le_of_ble_eq_true rfl) dX10_reachOf_58 ?_
    refine g_max_f86c9 C hl wM_X10_176 (by decide) (rest := []) (Nat.le_of_ble_eq_true rfl) dX10_reachOf_61 ?_
    refine lv_l2i (v := (f_J9_max_f86c9 0 (f_J9_min_f86c9 40 u12.1)).toInt32) hx hb dX10_reachOf_64 rfl ?_
    obtain rfl := Option.some.inj h
    exact hR _ _ _ _ _ Z dX10_reachOf_65 rfl
  · have h := ip h c33
    refine lv_iconst (v := 3) hx hb dX10_reachOf_36 (by decide) ?_
    obtain rfl := Option.some.inj h
    exact hR _ _ _ _ _ Z dX10_reachOf_37 rfl
theorem k_X10_reachOf {l : Launch} {kc : Nat → ClassId} {ad : Nat → Nat} {D : va_G} {adK adV : Nat → Nat} {x1 : Int32} {x2 : Int32} {σ : St} {R : Int32 × St} (h : f_X10_reachOf x1 x2 σ = some R) : KC (eC adK adV) tC kc ad D l yX10_reachOf (.code yX10_reachOf cX10_reachOf 6 (some .int)) r_X10_reachOf [.ref (ad 0), .int x1, .int x2] (some (.int R.1)) σ R.2 := by
  refine g_enter (by decide) (Nat.le_of_ble_eq_true rfl) ?_
  intro p e s m args below meth c A hA C hr hlocks Z ls hl
  have hl : lv_has ls 6 [(0, .ref (ad 0)), (1, .int x1), (2, .int x2)] := hl
  exact w_X10_reachOf_0 C (g_RTi C.1.1 C.1.2.1 hr hlocks hA)  Z hl h
def r_X10_reach : Room := { frames := 5, cells := 0, slots := 0, locals := 126 }
set_option maxRecDepth 20000 in
theorem w_X10_reach_0 {p : Program} {l : Launch} {e : Env} {s : State} {m : MethodId} {args : Array Value} {below : List Frame} {meth : Method} {c : Code} {Q : State → Prop} {D : va_G} {kc : Nat → ClassId} {ad : Nat → Nat} {A : Nat → Prop} {adK adV : Nat → Nat} (C : Cx (eC adK adV) p s m args c cX10_reach 3 RX10 D kc A) {R : Int32 × St} {x1 : Int32} {x2 : Int32} {σ : St} (hR : RTi 0 0 p l e r_X10_reach s m args below meth c cX10_reach tC kc ad D A Q .int R.1 R.2) {H : Heap} {locs : List Loc} {ls : Array Slot} (Z : Dy tC kc ad D A s.heap σ H locs) (hl : lv_has ls 3 [(0, .ref (ad 0)), (1, .int x1), (2, .int x2)]) (h : f_X10_reach x1 x2 σ = some R) : W p l e r_X10_reach s m args below meth c H locs 0 0 Q (F0 m 0 ls []) := by
  have hx := C.1.1
  have hb := C.1.2.1
  unfold f_X10_reach at h
  refine lv_iload_n hx hb dX10_reach_0 rfl (lv_at hl 1 rfl) ?_
  refine g_callSi (eC_ok adK adV) C Z (k_X10_isSide x1 σ) lk_X10_111 hl (by decide) rfl (Nat.le_of_ble_eq_true rfl) (rest := []) rfl dX10_reach_1 (fun H locs Z => ?_)
  refine lv_if_eq (tgt := 14) hx hb dX10_reach_4 (by decide) (fun c4 => ?_) (fun c4 => ?_)
  · have h := ip h c4
    refine lv_iconst (v := (-1)) hx hb dX10_reach_14 (by decide) ?_
    obtain rfl := Option.some.inj h
    exact hR _ _ _ _ _ Z dX10_reach_15 rfl
  · have h := im h c4
    refine lv_iload_n hx hb dX10_reach_7 rfl (lv_at hl 2 rfl) ?_
    refine g_callSi (eC_ok adK adV) C Z (k_X10_isMinute x2 σ) lk_X10_125 hl (by decide) rfl (Nat.le_of_ble_eq_true rfl) (rest := []) rfl dX10_reach_8 (fun H locs Z => ?_)
    refine lv_if_ne (tgt := 16) hx hb dX10_reach_11 (by decide) (fun c11 => ?_) (fun c11 => ?_)
    · have h := im h c11
      refine lv_aload_n hx hb dX10_reach_16 rfl (lv_at hl 0 rfl) ?_
      refine lv_iload_n hx hb dX10_reach_17 rfl (lv_at hl 1 rfl) ?_
      refine lv_iload_n hx hb dX10_reach_18 rfl (lv_at hl 2 rfl) ?_
      obtain ⟨u3, hu3, h⟩ := ob h
      refine g_callVi (eC_ok adK adV) C Z (k_X10_reachOf hu3) lk_X10_150 (by decide) rfl rfl hl (by decide) rfl (Nat.le_of_ble_eq_true rfl) (rest := []) rfl dX10_reach_19 (fun H locs Z => ?_)
      obtain rfl := Option.some.inj h
      exact hR _ _ _ _ _ Z dX10_reach_22 rfl
    · have h := ip h c11
      refine lv_iconst (v := (-1)) hx hb dX10_reach_14 (by decide) ?_
      obtain rfl := Option.some.inj h
      exact hR _ _ _ _ _ Z dX10_reach_15 rfl
theorem k_X10_reach {l : Launch} {kc : Nat → ClassId} {ad : Nat → Nat} {D : va_G} {adK adV : Nat → Nat} {x1 : Int32} {x2 : Int32} {σ : St} {R : Int32 × St} (h : f_X10_reach x1 x2 σ = some R) : KC (eC adK adV) tC kc ad D l yX10_reach (.code yX10_reach cX10_reach 3 (some .int)) r_X10_reach [.ref (ad 0), .int x1, .int x2] (some (.int R.1)) σ R.2 := by
  refine g_enter (by decide) (Nat.le_of_ble_eq_true rfl) ?_
  intro p e s m args below meth c A hA C hr hlocks Z ls hl
  have hl : lv_has ls 3 [(0, .ref (ad 0)), (1, .int x1), (2, .int x2)] := hl
  exact w_X10_reach_0 C (g_RTi C.1.1 C.1.2.1 hr hlocks hA)  Z hl h
def r_X10_within : Room := { frames := 5, cells := 0, slots := 0, locals := 126 }
set_option maxRecDepth 20000 in
theorem w_X10_within_0 {p : Program} {l : Launch} {e : Env} {s : State} {m : MethodId} {args : Array Value} {below : List Frame} {meth : Method} {c : Code} {Q : State → Prop} {D : va_G} {kc : Nat → ClassId} {ad : Nat → Nat} {A : Nat → Prop} {adK adV : Nat → Nat} (C : Cx (eC adK adV) p s m args c cX10_within 6 RX10 D kc A) {R : Int32 × St} {x1 : Int32} {x2 : Int32} {x3 : Int32} {x4 : Int32} {x5 : Int32} {σ : St} (hR : RTi 0 0 p l e r_X10_within s m args below meth c cX10_within tC kc ad D A Q .int R.1 R.2) {H : Heap} {locs : List Loc} {ls : Array Slot} (Z : Dy tC kc ad D A s.heap σ H locs) (hl : lv_has ls 6 [(0, .ref (ad 0)), (1, .int x1), (2, .int x2), (3, .int x3), (4, .int x4), (5, .int x5)]) (h : f_X10_within x1 x2 x3 x4 x5 σ = some R) : W p l e r_X10_within s m args below meth c H locs 0 0 Q (F0 m 0 ls []) := by
  have hx := C.1.1
  have hb := C.1.2.1
  unfold f_X10_within at h
  refine lv_iload_n hx hb dX10_within_0 rfl (lv_at hl 1 rfl) ?_
  refine g_callSi (eC_ok adK adV) C Z (k_X10_isSide x1 σ) lk_X10_111 hl (by decide) rfl (Nat.le_of_ble_eq_true rfl) (rest := []) rfl dX10_within_1 (fun H locs Z => ?_)
  refine lv_if_eq (tgt := 33) hx hb dX10_within_4 (by decide) (fun c4 => ?_) (fun c4 => ?_)
  · have h := ip h c4
    refine lv_iconst (v := (-1)) hx hb dX10_within_33 (by decide) ?_
    obtain rfl := Option.some.inj h
    exact hR _ _ _ _ _ Z dX10_within_34 rfl
  · have h := im h c4
    refine lv_iload_n hx hb dX10_within_7 rfl (lv_at hl 2 rfl) ?_
    refine lv_iconst (v := 0) hx hb dX10_within_8 (by decide) ?_
    refine lv_iconst (v := 1) hx hb dX10_within_9 (by decide) ?_
    refine g_callSi (eC_ok adK adV) C Z (k_X10_lies x2 0 1 σ) lk_X10_99 hl (by decide) rfl (Nat.le_of_ble_eq_true rfl) (rest := []) rfl dX10_within_10 (fun H locs Z => ?_)
    refine lv_if_eq (tgt := 33) hx hb dX10_within_13 (by decide) (fun c13 => ?_) (fun c13 => ?_)
    · have h := ip h c13
      refine lv_iconst (v := (-1)) hx hb dX10_within_33 (by decide) ?_
      obtain rfl := Option.some.inj h
      exact hR _ _ _ _ _ Z dX10_within_34 rfl
    · have h := im h c13
      refine lv_iload_n hx hb dX10_within_16 rfl (lv_at hl 3 rfl) ?_
      refine lv_iload hx hb dX10_within_17 (lv_at hl 4 rfl) ?_
      refine g_callSi (eC_ok adK adV) C Z (k_X6_isCell x3 x4 σ) lk_X10_103 hl (by decide) rfl (Nat.le_of_ble_eq_true rfl) (rest := []) rfl dX10_within_19 (fun H locs Z => ?_)
      refine lv_if_eq (tgt := 33) hx hb dX10_within_22 (by decide) (fun c22 => ?_) (fun c22 => ?_)
      · have h := ip h c22
        refine lv_iconst (v := (-1)) hx hb dX10_within_33 (by decide) ?_
        obtain rfl := Option.some.inj h
        exact hR _ _ _ _ _ Z dX10_within_34 rfl
      · have h := im h c22
        refine lv_iload hx hb dX10_within_25 (lv_at hl 5 rfl) ?_
        refine g_callSi (eC_ok adK adV) C Z (k_X10_isMinute x5 σ) lk_X10_125 hl (by decide) rfl (Nat.le_of_ble_eq_true rfl) (rest := []) rfl dX10_within_27 (fun H locs Z => ?_)
        refine lv_if_ne (tgt := 35) hx hb dX10_within_30 (by decide) (fun c30 => ?_) (fun c30 => ?_)
        · have h := im h c30
          refine lv_aload_n hx hb dX10_within_35 rfl (lv_at hl 0 rfl) ?_
          refine rg_X10_16 C Z dX10_within_36 ?_
          refine lv_iload_n hx hb dX10_within_39 rfl (lv_at hl 1 rfl) ?_
          refine lv_iload_n hx hb dX10_within_40 rfl (lv_at hl 2 rfl) ?_
          refine lv_iload_n hx hb dX10_within_41 rfl (lv_at hl 3 rfl) ?_
          refine lv_iload hx hb dX10_within_42 (lv_at hl 4 rfl) ?_
          refine lv_aload_n hx hb dX10_within_44 rfl (lv_at hl 0 rfl) ?_
          refine lv_iload_n hx hb dX10_within_45 rfl (lv_at hl 1 rfl) ?_
          refine lv_iload hx hb dX10_within_46 (lv_at hl 5 rfl) ?_
          obtain ⟨u5, hu5, h⟩ := ob h
          refine g_callVi (eC_ok adK adV) C Z (k_X10_reachOf hu5) lk_X10_150 (by decide) rfl rfl hl (by decide) rfl (Nat.le_of_ble_eq_true rfl) (rest := [.int x4, .int x3, .int x2, .int x1, .ref (ad 1)]) rfl dX10_within_48 (fun H locs Z => ?_)
          obtain ⟨v6, hv6, h⟩ := ob h
          refine g_callVi (eC_ok adK adV) C Z (k_X6_isNear hv6) lk_X10_179 (by decide) rfl rfl hl (by decide) rfl (Nat.le_of_ble_eq_true rfl) (rest := []) rfl dX10_within_51 (fun H locs Z => ?_)
          obtain ⟨v7, ev7, h⟩ := lb h
          have hj : W p l e r_X10_within s m args below meth c H locs 0 0 Q (F0 m 62 ls [.int v7]) := by
            obtain rfl := Option.some.inj h
            exact hR _ _ _ _ _ Z dX10_within_62 rfl
          refine lv_if_eq (tgt := 61) hx hb dX10_within_54 (by decide) (fun c54 => ?_) (fun c54 => ?_)
          · rw [if_pos c54] at ev7
            refine lv_iconst (v := 0) hx hb dX10_within_61 (by decide) ?_
            exact tn_i ev7 hj
          · rw [if_neg c54] at ev7
            refine lv_iconst (v := 1) hx hb dX10_within_57 (by decide) ?_
            refine lv_goto (tgt := 62) hx hb dX10_within_58 (by decide) ?_
            exact tn_i ev7 hj
        · have h := ip h c30
          refine lv_iconst (v := (-1)) hx hb dX10_within_33 (by decide) ?_
          obtain rfl := Option.some.inj h
          exact hR _ _ _ _ _ Z dX10_within_34 rfl
theorem k_X10_within {l : Launch} {kc : Nat → ClassId} {ad : Nat → Nat} {D : va_G} {adK adV : Nat → Nat} {x1 : Int32} {x2 : Int32} {x3 : Int32} {x4 : Int32} {x5 : Int32} {σ : St} {R : Int32 × St} (h : f_X10_within x1 x2 x3 x4 x5 σ = some R) : KC (eC adK adV) tC kc ad D l yX10_within (.code yX10_within cX10_within 6 (some .int)) r_X10_within [.ref (ad 0), .int x1, .int x2, .int x3, .int x4, .int x5] (some (.int R.1)) σ R.2 := by
  refine g_enter (by decide) (Nat.le_of_ble_eq_true rfl) ?_
  intro p e s m args below meth c A hA C hr hlocks Z ls hl
  have hl : lv_has ls 6 [(0, .ref (ad 0)), (1, .int x1), (2, .int x2), (3, .int x3), (4, .int x4), (5, .int x5)] := hl
  exact w_X10_within_0 C (g_RTi C.1.1 C.1.2.1 hr hlocks hA)  Z hl h
def r_X10_inside : Room := { frames := 5, cells := 0, slots := 0, locals := 126 }
set_option maxRecDepth 20000 in
theorem w_X10_inside_131 {p : Program} {l : Launch} {e : Env} {s : State} {m : MethodId} {args : Array Value} {below : List Frame} {meth : Method} {c : Code} {Q : State → Prop} {D : va_G} {kc : Nat → ClassId} {ad : Nat → Nat} {A : Nat → Prop} {adK adV : Nat → Nat} (C : Cx (eC adK adV) p s m args c cX10_inside 10 RX10 D kc A) {R : Int64 × St} {x1 : Int32} {x2 : Int32} {x3 : Int32} {x4 : Int32} {x5 : Int32} {x6 : Int64} {x8 : Int32} {σ : St} (hR : RTl 0 0 p l e r_X10_inside s m args below meth c cX10_inside tC kc ad D A Q R.1 R.2) {k49 : Int64 → Int32 → Option (Int64 × St)} (hk49 : ∀ (x6 : Int64) (x8 : Int32) (H : Heap) (locs : List Loc) (ls : Array Slot), Dy tC kc ad D A s.heap σ H locs → lv_has ls 10 [(0, .ref (ad 0)), (1, .int x1), (2, .int x2), (3, .int x3), (4, .int x4), (5, .int x5), (6, .long x6), (8, .int x8)] → k49 x6 x8 = some R → W p l e r_X10_inside s m args below meth c H locs 0 0 Q (F0 m 49 ls [])) {H : Heap} {locs : List Loc} {ls : Array Slot} (Z : Dy tC kc ad D A s.heap σ H locs) (hl : lv_has ls 10 [(0, .ref (ad 0)), (1, .int x1), (2, .int x2), (3, .int x3), (4, .int x4), (5, .int x5), (6, .long x6), (8, .int x8)]) (h : f_X10_inside_131 x1 x2 x3 x4 x5 x6 x8 σ k49 = some R) : W p l e r_X10_inside s m args below meth c H locs 0 0 Q (F0 m 131 ls []) := by
  have hx := C.1.1
  have hb := C.1.2.1
  unfold f_X10_inside_131 at h
  obtain ⟨v18, ev18, h⟩ := lb h
  refine lv_iinc (v := v18) (lv' := [(8, .int v18), (0, .ref (ad 0)), (1, .int x1), (2, .int x2), (3, .int x3), (4, .int x4), (5, .int x5), (6, .long x6)]) hx hb dX10_inside_131 hl (k := 7) rfl (by rw [ev18]; rfl) (by decide) rfl (fun ls hl => ?_)
  refine lv_goto (tgt := 49) hx hb dX10_inside_134 (by decide) ?_
  exact hk49 _ _ _ _ _ Z (lv_sub hl [1, 2, 3, 4, 5, 6, 7, 0] rfl) h
set_option maxRecDepth 20000 in
theorem w_X10_inside_49 {p : Program} {l : Launch} {e : Env} {s : State} {m : MethodId} {args : Array Value} {below : List Frame} {meth : Method} {c : Code} {Q : State → Prop} {D : va_G} {kc : Nat → ClassId} {ad : Nat → Nat} {A : Nat → Prop} {adK adV : Nat → Nat} (C : Cx (eC adK adV) p s m args c cX10_inside 10 RX10 D kc A) {R : Int64 × St} {x1 : Int32} {x2 : Int32} {x3 : Int32} {x4 : Int32} {x5 : Int32} {σ : St} (hR : RTl 0 0 p l e r_X10_inside s m args below meth c cX10_inside tC kc ad D A Q R.1 R.2) : ∀ (n : Nat) (x6 : Int64) (x8 : Int32) (H : Heap) (locs : List Loc) (ls : Array Slot), Dy tC kc ad D A s.heap σ H locs → lv_has ls 10 [(0, .ref (ad 0)), (1, .int x1), (2, .int x2), (3, .int x3), (4, .int x4), (5, .int x5), (6, .long x6), (8, .int x8)] → f_X10_inside_49 x1 x2 x3 x4 x5 σ n x6 x8 = some R → W p l e r_X10_inside s m args below meth c H locs 0 0 Q (F0 m 49 ls []) := by
  have hx := C.1.1
  have hb := C.1.2.1
  intro n
  induction n with
  | zero =>
    intro x6 x8 H locs ls Z hl h
    exact absurd (show none = some R from h) (by simp)
  | succ n ih =>
    intro x6 x8 H locs ls Z hl h
    rw [f_X10_inside_49] at h
    refine lv_iload hx hb dX10_inside_49 (lv_at hl 7 rfl) ?_
    refine lv_aload_n hx hb dX10_inside_51 rfl (lv_at hl 0 rfl) ?_
    refine rg_X10_23 C Z dX10_inside_52 ?_
    refine rg_X10_185 C Z dX10_inside_55 ?_
    refine lv_icmp_ge (tgt := 137) hx hb dX10_inside_58 (by decide) (fun c58 => ?_) (fun c58 => ?_)
    · have h := ip h c58
      refine lv_lload hx hb dX10_inside_137 (lv_at hl 6 rfl) ?_
      obtain rfl := Option.some.inj h
      exact hR _ _ _ _ Z dX10_inside_139
    · have h := im h c58
      refine lv_aload_n hx hb dX10_inside_61 rfl (lv_at hl 0 rfl) ?_
      refine rg_X10_23 C Z dX10_inside_62 ?_
      refine rg_X10_188 C Z dX10_inside_65 ?_
      refine lv_iload hx hb dX10_inside_68 (lv_at hl 7 rfl) ?_
      obtain ⟨v14, hv14, h⟩ := ob h
      refine g_iald C Z iaC18 hv14 dX10_inside_70 ?_
      refine lv_iload_n hx hb dX10_inside_71 rfl (lv_at hl 1 rfl) ?_
      refine lv_icmp_ne (tgt := 78) hx hb dX10_inside_72 (by decide) (fun c72 => ?_) (fun c72 => ?_)
      · have h := im h c72
        refine lv_aload_n hx hb dX10_inside_78 rfl (lv_at hl 0 rfl) ?_
        refine rg_X10_30 C Z dX10_inside_79 ?_
        refine lv_iload hx hb dX10_inside_82 (lv_at hl 7 rfl) ?_
        refine lv_iload_n hx hb dX10_inside_84 rfl (lv_at hl 3 rfl) ?_
        refine lv_iload hx hb dX10_inside_85 (lv_at hl 4 rfl) ?_
        obtain ⟨v15, hv15, h⟩ := ob h
        refine g_callVi (eC_ok adK adV) C Z (k_X5_cellOf hv15) lk_X10_128 (by decide) rfl rfl hl (by decide) rfl (Nat.le_of_ble_eq_true rfl) (rest := []) rfl dX10_inside_87 (fun H locs Z => ?_)
        refine lv_istore (lv' := [(9, .int v15), (0, .ref (ad 0)), (1, .int x1), (2, .int x2), (3, .int x3), (4, .int x4), (5, .int x5), (6, .long x6), (8, .int x8)]) hx hb dX10_inside_90 hl (by decide) rfl (fun ls hl => ?_)
        refine lv_iload hx hb dX10_inside_92 (lv_at hl 0 rfl) ?_
        refine lv_iconst (v := (-1)) hx hb dX10_inside_94 (by decide) ?_
        refine lv_icmp_eq (tgt := 131) hx hb dX10_inside_95 (by decide) (fun c95 => ?_) (fun c95 => ?_)
        · have h := ip h c95
          exact w_X10_inside_131 C hR ih Z (lv_sub hl [1, 2, 3, 4, 5, 6, 7, 8] rfl) h
        · have h := im h c95
          refine lv_aload_n hx hb dX10_inside_98 rfl (lv_at hl 1 rfl) ?_
          refine rg_X10_16 C Z dX10_inside_99 ?_
          refine lv_iload_n hx hb dX10_inside_102 rfl (lv_at hl 2 rfl) ?_
          refine lv_iload_n hx hb dX10_inside_103 rfl (lv_at hl 3 rfl) ?_
          refine lv_iload hx hb dX10_inside_104 (lv_at hl 0 rfl) ?_
          refine g_callSi (eC_ok adK adV) C Z (k_X6_xOf v15 σ) lk_X10_191 hl (by decide) rfl (Nat.le_of_ble_eq_true rfl) (rest := [.int x2, .int x1, .ref (ad 1)]) rfl dX10_inside_106 (fun H locs Z => ?_)
          refine lv_iload hx hb dX10_inside_109 (lv_at hl 0 rfl) ?_
          refine g_callSi (eC_ok adK adV) C Z (k_X6_yOf v15 σ) lk_X10_194 hl (by decide) rfl (Nat.le_of_ble_eq_true rfl) (rest := [.int (f_X6_xOf v15), .int x2, .int x1, .ref (ad 1)]) rfl dX10_inside_111 (fun H locs Z => ?_)
          refine lv_iload hx hb dX10_inside_114 (lv_at hl 6 rfl) ?_
          obtain ⟨v16, hv16, h⟩ := ob h
          refine g_callVi (eC_ok adK adV) C Z (k_X6_isNear hv16) lk_X10_179 (by decide) rfl rfl hl (by decide) rfl (Nat.le_of_ble_eq_true rfl) (rest := []) rfl dX10_inside_116 (fun H locs Z => ?_)
          refine lv_if_eq (tgt := 131) hx hb dX10_inside_119 (by decide) (fun c119 => ?_) (fun c119 => ?_)
          · have h := ip h c119
            exact w_X10_inside_131 C hR ih Z (lv_sub hl [1, 2, 3, 4, 5, 6, 7, 8] rfl) h
          · have h := im h c119
            refine lv_lload hx hb dX10_inside_122 (lv_at hl 7 rfl) ?_
            refine lv_lconst (v := 1) hx hb dX10_inside_124 (by decide) ?_
            refine lv_iload hx hb dX10_inside_125 (lv_at hl 8 rfl) ?_
            refine lv_lshl (v := lshl_ 1 x8) hx hb dX10_inside_127 rfl ?_
            refine lv_lor hx hb dX10_inside_128 ?_
            obtain ⟨v17, ev17, h⟩ := lb h
            refine tn_l ev17 ?_
            refine lv_lstore (lv' := [(6, .long v17), (9, .int v15), (0, .ref (ad 0)), (1, .int x1), (2, .int x2), (3, .int x3), (4, .int x4), (5, .int x5), (8, .int x8)]) hx hb dX10_inside_129 hl (by decide) rfl (fun ls hl => ?_)
            exact w_X10_inside_131 C hR ih Z (lv_sub hl [2, 3, 4, 5, 6, 7, 0, 8] rfl) h
      · have h := ip h c72
        refine lv_goto (tgt := 131) hx hb dX10_inside_75 (by decide) ?_
        exact w_X10_inside_131 C hR ih Z (lv_sub hl [0, 1, 2, 3, 4, 5, 6, 7] rfl) h
set_option maxRecDepth 20000 in
theorem w_X10_inside_0 {p : Program} {l : Launch} {e : Env} {s : State} {m : MethodId} {args : Array Value} {below : List Frame} {meth : Method} {c : Code} {Q : State → Prop} {D : va_G} {kc : Nat → ClassId} {ad : Nat → Nat} {A : Nat → Prop} {adK adV : Nat → Nat} (C : Cx (eC adK adV) p s m args c cX10_inside 10 RX10 D kc A) {R : Int64 × St} {x1 : Int32} {x2 : Int32} {x3 : Int32} {x4 : Int32} {σ : St} (hR : RTl 0 0 p l e r_X10_inside s m args below meth c cX10_inside tC kc ad D A Q R.1 R.2) {H : Heap} {locs : List Loc} {ls : Array Slot} (Z : Dy tC kc ad D A s.heap σ H locs) (hl : lv_has ls 10 [(0, .ref (ad 0)), (1, .int x1), (2, .int x2), (3, .int x3), (4, .int x4)]) (h : f_X10_inside x1 x2 x3 x4 σ = some R) : W p l e r_X10_inside s m args below meth c H locs 0 0 Q (F0 m 0 ls []) := by
  have hx := C.1.1
  have hb := C.1.2.1
  unfold f_X10_inside at h
  refine lv_iload_n hx hb dX10_inside_0 rfl (lv_at hl 1 rfl) ?_
  refine g_callSi (eC_ok adK adV) C Z (k_X10_isSide x1 σ) lk_X10_111 hl (by decide) rfl (Nat.le_of_ble_eq_true rfl) (rest := []) rfl dX10_inside_1 (fun H locs Z => ?_)
  refine lv_if_eq (tgt := 31) hx hb dX10_inside_4 (by decide) (fun c4 => ?_) (fun c4 => ?_)
  · have h := ip h c4
    refine lv_ldc2 (v := (-1)) hx hb C.1.2.2.2.1 (C.1.2.2.2.2 _ wDL_X10_183) dX10_inside_31 ?_
    obtain rfl := Option.some.inj h
    exact hR _ _ _ _ Z dX10_inside_34
  · have h := im h c4
    refine lv_iload_n hx hb dX10_inside_7 rfl (lv_at hl 2 rfl) ?_
    refine lv_iconst (v := 0) hx hb dX10_inside_8 (by decide) ?_
    refine lv_iconst (v := 1) hx hb dX10_inside_9 (by decide) ?_
    refine g_callSi (eC_ok adK adV) C Z (k_X10_lies x2 0 1 σ) lk_X10_99 hl (by decide) rfl (Nat.le_of_ble_eq_true rfl) (rest := []) rfl dX10_inside_10 (fun H locs Z => ?_)
    refine lv_if_eq (tgt := 31) hx hb dX10_inside_13 (by decide) (fun c13 => ?_) (fun c13 => ?_)
    · have h := ip h c13
      refine lv_ldc2 (v := (-1)) hx hb C.1.2.2.2.1 (C.1.2.2.2.2 _ wDL_X10_183) dX10_inside_31 ?_
      obtain rfl := Option.some.inj h
      exact hR _ _ _ _ Z dX10_inside_34
    · have h := im h c13
      refine lv_iload_n hx hb dX10_inside_16 rfl (lv_at hl 3 rfl) ?_
      refine g_callSi (eC_ok adK adV) C Z (k_X10_isMinute x3 σ) lk_X10_125 hl (by decide) rfl (Nat.le_of_ble_eq_true rfl) (rest := []) rfl dX10_inside_17 (fun H locs Z => ?_)
      refine lv_if_eq (tgt := 31) hx hb dX10_inside_20 (by decide) (fun c20 => ?_) (fun c20 => ?_)
      · have h := ip h c20
        refine lv_ldc2 (v := (-1)) hx hb C.1.2.2.2.1 (C.1.2.2.2.2 _ wDL_X10_183) dX10_inside_31 ?_
        obtain rfl := Option.some.inj h
        exact hR _ _ _ _ Z dX10_inside_34
      · have h := im h c20
        refine lv_iload hx hb dX10_inside_23 (lv_at hl 4 rfl) ?_
        refine g_callSi (eC_ok adK adV) C Z (k_X10_isMinute x4 σ) lk_X10_125 hl (by decide) rfl (Nat.le_of_ble_eq_true rfl) (rest := []) rfl dX10_inside_25 (fun H locs Z => ?_)
        refine lv_if_ne (tgt := 35) hx hb dX10_inside_28 (by decide) (fun c28 => ?_) (fun c28 => ?_)
        · have h := im h c28
          refine lv_aload_n hx hb dX10_inside_35 rfl (lv_at hl 0 rfl) ?_
          refine lv_iload_n hx hb dX10_inside_36 rfl (lv_at hl 1 rfl) ?_
          refine lv_iload_n hx hb dX10_inside_37 rfl (lv_at hl 3 rfl) ?_
          obtain ⟨u13, hu13, h⟩ := ob h
          refine g_callVi (eC_ok adK adV) C Z (k_X10_reachOf hu13) lk_X10_150 (by decide) rfl rfl hl (by decide) rfl (Nat.le_of_ble_eq_true rfl) (rest := []) rfl dX10_inside_38 (fun H locs Z => ?_)
          refine lv_istore (lv' := [(5, .int u13.1), (0, .ref (ad 0)), (1, .int x1), (2, .int x2), (3, .int x3), (4, .int x4)]) hx hb dX10_inside_41 hl (by decide) rfl (fun ls hl => ?_)
          refine lv_lconst (v := 0) hx hb dX10_inside_43 (by decide) ?_
          refine lv_lstore (lv' := [(6, .long 0), (5, .int u13.1), (0, .ref (ad 0)), (1, .int x1), (2, .int x2), (3, .int x3), (4, .int x4)]) hx hb dX10_inside_44 hl (by decide) rfl (fun ls hl => ?_)
          refine lv_iconst (v := 0) hx hb dX10_inside_46 (by decide) ?_
          refine lv_istore (lv' := [(8, .int 0), (6, .long 0), (5, .int u13.1), (0, .ref (ad 0)), (1, .int x1), (2, .int x2), (3, .int x3), (4, .int x4)]) hx hb dX10_inside_47 hl (by decide) rfl (fun ls hl => ?_)
          exact w_X10_inside_49 C hR _ _ _ _ _ _ Z (lv_sub hl [3, 4, 5, 6, 7, 2, 1, 0] rfl) h
        · have h := ip h c28
          refine lv_ldc2 (v := (-1)) hx hb C.1.2.2.2.1 (C.1.2.2.2.2 _ wDL_X10_183) dX10_inside_31 ?_
          obtain rfl := Option.some.inj h
          exact hR _ _ _ _ Z dX10_inside_34
theorem k_X10_inside {l : Launch} {kc : Nat → ClassId} {ad : Nat → Nat} {D : va_G} {adK adV : Nat → Nat} {x1 : Int32} {x2 : Int32} {x3 : Int32} {x4 : Int32} {σ : St} {R : Int64 × St} (h : f_X10_inside x1 x2 x3 x4 σ = some R) : KC (eC adK adV) tC kc ad D l yX10_inside (.code yX10_inside cX10_inside 10 (some .long)) r_X10_inside [.ref (ad 0), .int x1, .int x2, .int x3, .int x4] (some (.long R.1)) σ R.2 := by
  refine g_enter (by decide) (Nat.le_of_ble_eq_true rfl) ?_
  intro p e s m args below meth c A hA C hr hlocks Z ls hl
  have hl : lv_has ls 10 [(0, .ref (ad 0)), (1, .int x1), (2, .int x2), (3, .int x3), (4, .int x4)] := hl
  exact w_X10_inside_0 C (g_RTl C.1.1 C.1.2.1 hr hlocks hA)  Z hl h
def r_X10_beside : Room := { frames := 3, cells := 0, slots := 0, locals := 71 }
set_option maxRecDepth 20000 in
theorem w_X10_beside_125 {p : Program} {l : Launch} {e : Env} {s : State} {m : MethodId} {args : Array Value} {below : List Frame} {meth : Method} {c : Code} {Q : State → Prop} {D : va_G} {kc : Nat → ClassId} {ad : Nat → Nat} {A : Nat → Prop} {adK adV : Nat → Nat} (C : Cx (eC adK adV) p s m args c cX10_beside 6 RX10 D kc A) {R : Int32} {x1 : Int32} {x2 : Int32} {x3 : Int32} {x4 : Int32} {σ : St} (hR : RTi 0 0 p l e r_X10_beside s m args below meth c cX10_beside tC kc ad D A Q .int R σ) {k24 : Int32 → Int32 → Option (Int32)} (hk24 : ∀ (x3 : Int32) (x4 : Int32) (H : Heap) (locs : List Loc) (ls : Array Slot), Dy tC kc ad D A s.heap σ H locs → lv_has ls 6 [(0, .ref (ad 0)), (1, .int x1), (2, .int x2), (3, .int x3), (4, .int x4)] → k24 x3 x4 = some R → W p l e r_X10_beside s m args below meth c H locs 0 0 Q (F0 m 24 ls [])) {H : Heap} {locs : List Loc} {ls : Array Slot} (Z : Dy tC kc ad D A s.heap σ H locs) (hl : lv_has ls 6 [(0, .ref (ad 0)), (1, .int x1), (2, .int x2), (3, .int x3), (4, .int x4)]) (h : f_X10_beside_125 x1 x2 x3 x4 σ k24 = some R) : W p l e r_X10_beside s m args below meth c H locs 0 0 Q (F0 m 125 ls []) := by
  have hx := C.1.1
  have hb := C.1.2.1
  unfold f_X10_beside_125 at h
  obtain ⟨v24, ev24, h⟩ := lb h
  refine lv_iinc (v := v24) (lv' := [(4, .int v24), (0, .ref (ad 0)), (1, .int x1), (2, .int x2), (3, .int x3)]) hx hb dX10_beside_125 hl (k := 4) rfl (by rw [ev24]; rfl) (by decide) rfl (fun ls hl => ?_)
  refine lv_goto (tgt := 24) hx hb dX10_beside_128 (by decide) ?_
  exact hk24 _ _ _ _ _ Z (lv_sub hl [1, 2, 3, 4, 0] rfl) h
set_option maxRecDepth 20000 in
theorem w_X10_beside_24 {p : Program} {l : Launch} {e : Env} {s : State} {m : MethodId} {args : Array Value} {below : List Frame} {meth : Method} {c : Code} {Q : State → Prop} {D : va_G} {kc : Nat → ClassId} {ad : Nat → Nat} {A : Nat → Prop} {adK adV : Nat → Nat} (C : Cx (eC adK adV) p s m args c cX10_beside 6 RX10 D kc A) {R : Int32} {x1 : Int32} {x2 : Int32} {σ : St} (hR : RTi 0 0 p l e r_X10_beside s m args below meth c cX10_beside tC kc ad D A Q .int R σ) : ∀ (n : Nat) (x3 : Int32) (x4 : Int32) (H : Heap) (locs : List Loc) (ls : Array Slot), Dy tC kc ad D A s.heap σ H locs → lv_has ls 6 [(0, .ref (ad 0)), (1, .int x1), (2, .int x2), (3, .int x3), (4, .int x4)] → f_X10_beside_24 x1 x2 σ n x3 x4 = some R → W p l e r_X10_beside s m args below meth c H locs 0 0 Q (F0 m 24 ls []) := by
  have hx := C.1.1
  have hb := C.1.2.1
  intro n
  induction n with
  | zero =>
    intro x3 x4 H locs ls Z hl h
    exact absurd (show none = some R from h) (by simp)
  | succ n ih =>
    intro x3 x4 H locs ls Z hl h
    rw [f_X10_beside_24] at h
    refine lv_iload hx hb dX10_beside_24 (lv_at hl 4 rfl) ?_
    refine lv_aload_n hx hb dX10_beside_26 rfl (lv_at hl 0 rfl) ?_
    refine rg_X10_30 C Z dX10_beside_27 ?_
    refine rg_X10_197 C Z dX10_beside_30 ?_
    refine lv_icmp_ge (tgt := 131) hx hb dX10_beside_33 (by decide) (fun c33 => ?_) (fun c33 => ?_)
    · have h := ip h c33
      refine lv_iload_n hx hb dX10_beside_131 rfl (lv_at hl 3 rfl) ?_
      obtain rfl := Option.some.inj h
      exact hR _ _ _ _ _ Z dX10_beside_132 rfl
    · have h := im h c33
      refine lv_aload_n hx hb dX10_beside_36 rfl (lv_at hl 0 rfl) ?_
      refine rg_X10_30 C Z dX10_beside_37 ?_
      refine rg_X10_198 C Z dX10_beside_40 ?_
      refine lv_iload hx hb dX10_beside_43 (lv_at hl 4 rfl) ?_
      obtain ⟨v17, hv17, h⟩ := ob h
      refine g_iald C Z iaC22 hv17 dX10_beside_45 ?_
      refine lv_istore (lv' := [(5, .int v17), (0, .ref (ad 0)), (1, .int x1), (2, .int x2), (3, .int x3), (4, .int x4)]) hx hb dX10_beside_46 hl (by decide) rfl (fun ls hl => ?_)
      refine lv_iload hx hb dX10_beside_48 (lv_at hl 0 rfl) ?_
      refine lv_aload_n hx hb dX10_beside_50 rfl (lv_at hl 1 rfl) ?_
      refine rg_X10_30 C Z dX10_beside_51 ?_
      refine rg_X10_201 C Z dX10_beside_54 ?_
      refine lv_iload hx hb dX10_beside_57 (lv_at hl 5 rfl) ?_
      obtain ⟨v18, hv18, h⟩ := ob h
      refine g_iald C Z iaC23 hv18 dX10_beside_59 ?_
      refine lv_icmp_ne (tgt := 125) hx hb dX10_beside_60 (by decide) (fun c60 => ?_) (fun c60 => ?_)
      · have h := im h c60
        exact w_X10_beside_125 C hR ih Z (lv_sub hl [1, 2, 3, 4, 5] rfl) h
      · have h := ip h c60
        refine lv_aload_n hx hb dX10_beside_63 rfl (lv_at hl 1 rfl) ?_
        refine rg_X10_23 C Z dX10_beside_64 ?_
        refine lv_iload hx hb dX10_beside_67 (lv_at hl 0 rfl) ?_
        refine g_callVi (eC_ok adK adV) C Z (k_X7_has v17 σ) lk_X10_119 (by decide) rfl rfl hl (by decide) rfl (Nat.le_of_ble_eq_true rfl) (rest := []) rfl dX10_beside_69 (fun H locs Z => ?_)
        refine lv_if_eq (tgt := 125) hx hb dX10_beside_72 (by decide) (fun c72 => ?_) (fun c72 => ?_)
        · have h := ip h c72
          exact w_X10_beside_125 C hR ih Z (lv_sub hl [1, 2, 3, 4, 5] rfl) h
        · have h := im h c72
          refine lv_aload_n hx hb dX10_beside_75 rfl (lv_at hl 1 rfl) ?_
          refine rg_X10_23 C Z dX10_beside_76 ?_
          refine rg_X10_188 C Z dX10_beside_79 ?_
          refine lv_iload hx hb dX10_beside_82 (lv_at hl 0 rfl) ?_
          obtain ⟨v19, hv19, h⟩ := ob h
          refine g_iald C Z iaC18 hv19 dX10_beside_84 ?_
          refine lv_iload_n hx hb dX10_beside_85 rfl (lv_at hl 2 rfl) ?_
          refine lv_icmp_eq (tgt := 125) hx hb dX10_beside_86 (by decide) (fun c86 => ?_) (fun c86 => ?_)
          · have h := ip h c86
            exact w_X10_beside_125 C hR ih Z (lv_sub hl [1, 2, 3, 4, 5] rfl) h
          · have h := im h c86
            refine lv_aload_n hx hb dX10_beside_89 rfl (lv_at hl 1 rfl) ?_
            refine rg_X10_16 C Z dX10_beside_90 ?_
            refine lv_iload_n hx hb dX10_beside_93 rfl (lv_at hl 2 rfl) ?_
            refine lv_iconst (v := 0) hx hb dX10_beside_94 (by decide) ?_
            refine lv_aload_n hx hb dX10_beside_95 rfl (lv_at hl 1 rfl) ?_
            refine rg_X10_30 C Z dX10_beside_96 ?_
            refine rg_X10_204 C Z dX10_beside_99 ?_
            refine lv_iload hx hb dX10_beside_102 (lv_at hl 5 rfl) ?_
            obtain ⟨v20, hv20, h⟩ := ob h
            refine g_iald C Z iaC25 hv20 dX10_beside_104 ?_
            refine lv_aload_n hx hb dX10_beside_105 rfl (lv_at hl 1 rfl) ?_
            refine rg_X10_30 C Z dX10_beside_106 ?_
            refine rg_X10_206 C Z dX10_beside_109 ?_
            refine lv_iload hx hb dX10_beside_112 (lv_at hl 5 rfl) ?_
            obtain ⟨v21, hv21, h⟩ := ob h
            refine g_iald C Z iaC26 hv21 dX10_beside_114 ?_
            refine lv_iload_n hx hb dX10_beside_115 rfl (lv_at hl 3 rfl) ?_
            obtain ⟨v22, hv22, h⟩ := ob h
            refine g_callVi (eC_ok adK adV) C Z (k_X6_isNear hv22) lk_X10_179 (by decide) rfl rfl hl (by decide) rfl (Nat.le_of_ble_eq_true rfl) (rest := []) rfl dX10_beside_116 (fun H locs Z => ?_)
            refine lv_if_eq (tgt := 125) hx hb dX10_beside_119 (by decide) (fun c119 => ?_) (fun c119 => ?_)
            · have h := ip h c119
              exact w_X10_beside_125 C hR ih Z (lv_sub hl [1, 2, 3, 4, 5] rfl) h
            · have h := im h c119
              obtain ⟨v23, ev23, h⟩ := lb h
              refine lv_iinc (v := v23) (lv' := [(3, .int v23), (5, .int v17), (0, .ref (ad 0)), (1, .int x1), (2, .int x2), (4, .int x4)]) hx hb dX10_beside_122 hl (k := 4) rfl (by rw [ev23]; rfl) (by decide) rfl (fun ls hl => ?_)
              exact w_X10_beside_125 C hR ih Z (lv_sub hl [2, 3, 4, 0, 5] rfl) h
set_option maxRecDepth 20000 in
theorem w_X10_beside_0 {p : Program} {l : Launch} {e : Env} {s : State} {m : MethodId} {args : Array Value} {below : List Frame} {meth : Method} {c : Code} {Q : State → Prop} {D : va_G} {kc : Nat → ClassId} {ad : Nat → Nat} {A : Nat → Prop} {adK adV : Nat → Nat} (C : Cx (eC adK adV) p s m args c cX10_beside 6 RX10 D kc A) {R : Int32} {x1 : Int32} {x2 : Int32} {σ : St} (hR : RTi 0 0 p l e r_X10_beside s m args below meth c cX10_beside tC kc ad D A Q .int R σ) {H : Heap} {locs : List Loc} {ls : Array Slot} (Z : Dy tC kc ad D A s.heap σ H locs) (hl : lv_has ls 6 [(0, .ref (ad 0)), (1, .int x1), (2, .int x2)]) (h : f_X10_beside x1 x2 σ = some R) : W p l e r_X10_beside s m args below meth c H locs 0 0 Q (F0 m 0 ls []) := by
  have hx := C.1.1
  have hb := C.1.2.1
  unfold f_X10_beside at h
  refine lv_iload_n hx hb dX10_beside_0 rfl (lv_at hl 1 rfl) ?_
  refine g_callSi (eC_ok adK adV) C Z (k_X10_isSide x1 σ) lk_X10_111 hl (by decide) rfl (Nat.le_of_ble_eq_true rfl) (rest := []) rfl dX10_beside_1 (fun H locs Z => ?_)
  refine lv_if_eq (tgt := 17) hx hb dX10_beside_4 (by decide) (fun c4 => ?_) (fun c4 => ?_)
  · have h := ip h c4
    refine lv_iconst (v := (-1)) hx hb dX10_beside_17 (by decide) ?_
    obtain rfl := Option.some.inj h
    exact hR _ _ _ _ _ Z dX10_beside_18 rfl
  · have h := im h c4
    refine lv_iload_n hx hb dX10_beside_7 rfl (lv_at hl 2 rfl) ?_
    refine lv_iconst (v := 0) hx hb dX10_beside_8 (by decide) ?_
    refine lv_bipush (v := 40) hx hb dX10_beside_9 (by decide) ?_
    refine g_callSi (eC_ok adK adV) C Z (k_X10_lies x2 0 40 σ) lk_X10_99 hl (by decide) rfl (Nat.le_of_ble_eq_true rfl) (rest := []) rfl dX10_beside_11 (fun H locs Z => ?_)
    refine lv_if_ne (tgt := 19) hx hb dX10_beside_14 (by decide) (fun c14 => ?_) (fun c14 => ?_)
    · have h := im h c14
      refine lv_iconst (v := 0) hx hb dX10_beside_19 (by decide) ?_
      refine lv_istore_n (lv' := [(3, .int 0), (0, .ref (ad 0)), (1, .int x1), (2, .int x2)]) hx hb dX10_beside_20 rfl hl (by decide) rfl (fun ls hl => ?_)
      refine lv_iconst (v := 0) hx hb dX10_beside_21 (by decide) ?_
      refine lv_istore (lv' := [(4, .int 0), (3, .int 0), (0, .ref (ad 0)), (1, .int x1), (2, .int x2)]) hx hb dX10_beside_22 hl (by decide) rfl (fun ls hl => ?_)
      exact w_X10_beside_24 C hR _ _ _ _ _ _ Z (lv_sub hl [2, 3, 4, 1, 0] rfl) h
    · have h := ip h c14
      refine lv_iconst (v := (-1)) hx hb dX10_beside_17 (by decide) ?_
      obtain rfl := Option.some.inj h
      exact hR _ _ _ _ _ Z dX10_beside_18 rfl
theorem k_X10_beside {l : Launch} {kc : Nat → ClassId} {ad : Nat → Nat} {D : va_G} {adK adV : Nat → Nat} {x1 : Int32} {x2 : Int32} {σ : St} {R : Int32} (h : f_X10_beside x1 x2 σ = some R) : KC (eC adK adV) tC kc ad D l yX10_beside (.code yX10_beside cX10_beside 6 (some .int)) r_X10_beside [.ref (ad 0), .int x1, .int x2] (some (.int R)) σ σ := by
  refine g_enter (by decide) (Nat.le_of_ble_eq_true rfl) ?_
  intro p e s m args below meth c A hA C hr hlocks Z ls hl
  have hl : lv_has ls 6 [(0, .ref (ad 0)), (1, .int x1), (2, .int x2)] := hl
  exact w_X10_beside_0 C (g_RTi C.1.1 C.1.2.1 hr hlocks hA)  Z hl h
def r_X10_feed : Room := { frames := 1, cells := 0, slots := 0, locals := 22 }
set_option maxRecDepth 20000 in
theorem w_X10_feed_0 {p : Program} {l : Launch} {e : Env} {s : State} {m : MethodId} {args : Array Value} {below : List Frame} {meth : Method} {c : Code} {Q : State → Prop} {D : va_G} {kc : Nat → ClassId} {ad : Nat → Nat} {A : Nat → Prop} {adK adV : Nat → Nat} (C : Cx (eC adK adV) p s m args c cX10_feed 6 RX10 D kc A) {R : Int32 × St} {x1 : Int32} {x2 : Int32} {x3 : Int32} {x4 : Int32} {x5 : Int32} {σ : St} (hR : RTi 0 0 p l e r_X10_feed s m args below meth c cX10_feed tC kc ad D A Q .int R.1 R.2) {H : Heap} {locs : List Loc} {ls : Array Slot} (Z : Dy tC kc ad D A s.heap σ H locs) (hl : lv_has ls 6 [(0, .ref (ad 0)), (1, .int x1), (2, .int x2), (3, .int x3), (4, .int x4), (5, .int x5)]) (h : f_X10_feed x1 x2 x3 x4 x5 σ = some R) : W p l e r_X10_feed s m args below meth c H locs 0 0 Q (F0 m 0 ls []) := by
  have hx := C.1.1
  have hb := C.1.2.1
  unfold f_X10_feed at h
  refine lv_aload_n hx hb dX10_feed_0 rfl (lv_at hl 0 rfl) ?_
  refine rg_X10_46 C Z dX10_feed_1 ?_
  refine lv_bipush (v := 20) hx hb dX10_feed_4 (by decide) ?_
  refine g_callVi (eC_ok adK adV) C Z (k_X4_hasRoomFor 20 σ) lk_X10_208 (by decide) rfl rfl hl (by decide) rfl (Nat.le_of_ble_eq_true rfl) (rest := []) rfl dX10_feed_6 (fun H locs Z => ?_)
  refine lv_if_ne (tgt := 14) hx hb dX10_feed_9 (by decide) (fun c9 => ?_) (fun c9 => ?_)
  · have h := im h c9
    refine lv_aload_n hx hb dX10_feed_14 rfl (lv_at hl 0 rfl) ?_
    refine rg_X10_46 C Z dX10_feed_15 ?_
    refine lv_iload_n hx hb dX10_feed_18 rfl (lv_at hl 1 rfl) ?_
    obtain ⟨σ11, hσ11, h⟩ := ob h
    refine g_callVv (eC_ok adK adV) C Z (k_X4_take hσ11) lk_X10_211 (by decide) rfl rfl hl (by decide) rfl (Nat.le_of_ble_eq_true rfl) (rest := []) rfl dX10_feed_19 (fun H locs Z => ?_)
    refine lv_aload_n hx hb dX10_feed_22 rfl (lv_at hl 0 rfl) ?_
    refine rg_X10_46 C Z dX10_feed_23 ?_
    refine lv_iload_n hx hb dX10_feed_26 rfl (lv_at hl 2 rfl) ?_
    obtain ⟨σ12, hσ12, h⟩ := ob h
    refine g_callVv (eC_ok adK adV) C Z (k_X4_take hσ12) lk_X10_211 (by decide) rfl rfl hl (by decide) rfl (Nat.le_of_ble_eq_true rfl) (rest := []) rfl dX10_feed_27 (fun H locs Z => ?_)
    refine lv_aload_n hx hb dX10_feed_30 rfl (lv_at hl 0 rfl) ?_
    refine rg_X10_46 C Z dX10_feed_31 ?_
    refine lv_iload_n hx hb dX10_feed_34 rfl (lv_at hl 3 rfl) ?_
    obtain ⟨σ13, hσ13, h⟩ := ob h
    refine g_callVv (eC_ok adK adV) C Z (k_X4_take hσ13) lk_X10_211 (by decide) rfl rfl hl (by decide) rfl (Nat.le_of_ble_eq_true rfl) (rest := []) rfl dX10_feed_35 (fun H locs Z => ?_)
    refine lv_aload_n hx hb dX10_feed_38 rfl (lv_at hl 0 rfl) ?_
    refine rg_X10_46 C Z dX10_feed_39 ?_
    refine lv_iload hx hb dX10_feed_42 (lv_at hl 4 rfl) ?_
    obtain ⟨σ14, hσ14, h⟩ := ob h
    refine g_callVv (eC_ok adK adV) C Z (k_X4_take hσ14) lk_X10_211 (by decide) rfl rfl hl (by decide) rfl (Nat.le_of_ble_eq_true rfl) (rest := []) rfl dX10_feed_44 (fun H locs Z => ?_)
    refine lv_aload_n hx hb dX10_feed_47 rfl (lv_at hl 0 rfl) ?_
    refine rg_X10_46 C Z dX10_feed_48 ?_
    refine lv_iload hx hb dX10_feed_51 (lv_at hl 5 rfl) ?_
    obtain ⟨σ15, hσ15, h⟩ := ob h
    refine g_callVv (eC_ok adK adV) C Z (k_X4_take hσ15) lk_X10_211 (by decide) rfl rfl hl (by decide) rfl (Nat.le_of_ble_eq_true rfl) (rest := []) rfl dX10_feed_53 (fun H locs Z => ?_)
    refine lv_aload_n hx hb dX10_feed_56 rfl (lv_at hl 0 rfl) ?_
    refine rg_X10_46 C Z dX10_feed_57 ?_
    refine rg_X10_215 C Z dX10_feed_60 ?_
    obtain rfl := Option.some.inj h
    exact hR _ _ _ _ _ Z dX10_feed_63 rfl
  · have h := ip h c9
    refine lv_iconst (v := (-1)) hx hb dX10_feed_12 (by decide) ?_
    obtain rfl := Option.some.inj h
    exact hR _ _ _ _ _ Z dX10_feed_13 rfl
theorem k_X10_feed {l : Launch} {kc : Nat → ClassId} {ad : Nat → Nat} {D : va_G} {adK adV : Nat → Nat} {x1 : Int32} {x2 : Int32} {x3 : Int32} {x4 : Int32} {x5 : Int32} {σ : St} {R : Int32 × St} (h : f_X10_feed x1 x2 x3 x4 x5 σ = some R) : KC (eC adK adV) tC kc ad D l yX10_feed (.code yX10_feed cX10_feed 6 (some .int)) r_X10_feed [.ref (ad 0), .int x1, .int x2, .int x3, .int x4, .int x5] (some (.int R.1)) σ R.2 := by
  refine g_enter (by decide) (Nat.le_of_ble_eq_true rfl) ?_
  intro p e s m args below meth c A hA C hr hlocks Z ls hl
  have hl : lv_has ls 6 [(0, .ref (ad 0)), (1, .int x1), (2, .int x2), (3, .int x3), (4, .int x4), (5, .int x5)] := hl
  exact w_X10_feed_0 C (g_RTi C.1.1 C.1.2.1 hr hlocks hA)  Z hl h
def r_X10_end : Room := { frames := 1, cells := 0, slots := 0, locals := 22 }
set_option maxRecDepth 20000 in
theorem w_X10_end_0 {p : Program} {l : Launch} {e : Env} {s : State} {m : MethodId} {args : Array Value} {below : List Frame} {meth : Method} {c : Code} {Q : State → Prop} {D : va_G} {kc : Nat → ClassId} {ad : Nat → Nat} {A : Nat → Prop} {adK adV : Nat → Nat} (C : Cx (eC adK adV) p s m args c cX10_end 2 RX10 D kc A) {R : Int32 × St} {x1 : Int32} {σ : St} (hR : RTi 0 0 p l e r_X10_end s m args below meth c cX10_end tC kc ad D A Q .int R.1 R.2) {H : Heap} {locs : List Loc} {ls : Array Slot} (Z : Dy tC kc ad D A s.heap σ H locs) (hl : lv_has ls 2 [(0, .ref (ad 0)), (1, .int x1)]) (h : f_X10_end x1 σ = some R) : W p l e r_X10_end s m args below meth c H locs 0 0 Q (F0 m 0 ls []) := by
  have hx := C.1.1
  have hb := C.1.2.1
  unfold f_X10_end at h
  refine lv_iload_n hx hb dX10_end_0 rfl (lv_at hl 1 rfl) ?_
  refine lv_iconst (v := 0) hx hb dX10_end_1 (by decide) ?_
  refine lv_aload_n hx hb dX10_end_2 rfl (lv_at hl 0 rfl) ?_
  refine rg_X10_46 C Z dX10_end_3 ?_
  refine rg_X10_215 C Z dX10_end_6 ?_
  refine g_callSi (eC_ok adK adV) C Z (k_X10_lies x1 0 (gF σ 502) σ) lk_X10_99 hl (by decide) rfl (Nat.le_of_ble_eq_true rfl) (rest := []) rfl dX10_end_9 (fun H locs Z => ?_)
  refine lv_if_ne (tgt := 17) hx hb dX10_end_12 (by decide) (fun c12 => ?_) (fun c12 => ?_)
  · have h := im h c12
    refine lv_aload_n hx hb dX10_end_17 rfl (lv_at hl 0 rfl) ?_
    refine rg_X10_46 C Z dX10_end_18 ?_
    refine lv_iload_n hx hb dX10_end_21 rfl (lv_at hl 1 rfl) ?_
    obtain ⟨σ3, eσ3, h⟩ := lb h
    refine rp_X10_215 C Z eσ3 dX10_end_22 (fun H locs Z => ?_)
    refine lv_iload_n hx hb dX10_end_25 rfl (lv_at hl 1 rfl) ?_
    obtain rfl := Option.some.inj h
    exact hR _ _ _ _ _ Z dX10_end_26 rfl
  · have h := ip h c12
    refine lv_iconst (v := (-1)) hx hb dX10_end_15 (by decide) ?_
    obtain rfl := Option.some.inj h
    exact hR _ _ _ _ _ Z dX10_end_16 rfl
theorem k_X10_end {l : Launch} {kc : Nat → ClassId} {ad : Nat → Nat} {D : va_G} {adK adV : Nat → Nat} {x1 : Int32} {σ : St} {R : Int32 × St} (h : f_X10_end x1 σ = some R) : KC (eC adK adV) tC kc ad D l yX10_end (.code yX10_end cX10_end 2 (some .int)) r_X10_end [.ref (ad 0), .int x1] (some (.int R.1)) σ R.2 := by
  refine g_enter (by decide) (Nat.le_of_ble_eq_true rfl) ?_
  intro p e s m args below meth c A hA C hr hlocks Z ls hl
  have hl : lv_has ls 2 [(0, .ref (ad 0)), (1, .int x1)] := hl
  exact w_X10_end_0 C (g_RTi C.1.1 C.1.2.1 hr hlocks hA)  Z hl h
def r_X10_statute : Room := { frames := 164, cells := 1, slots := 5300, locals := 5888 }
set_option maxRecDepth 20000 in
theorem w_X10_statute_41 {p : Program} {l : Launch} {e : Env} {s : State} {m : MethodId} {args : Array Value} {below : List Frame} {meth : Method} {c : Code} {Q : State → Prop} {D : va_G} {kc : Nat → ClassId} {ad : Nat → Nat} {A : Nat → Prop} {adK adV : Nat → Nat} (C : Cx (eC adK adV) p s m args c cX10_statute 4 RX10 D kc A) {R : Int32 × St} {x1 : Int32} {x2 : Int32} {y0 : Int32} {σ : St} (hR : RTi 1 5300 p l e r_X10_statute s m args below meth c cX10_statute tC kc ad D A Q .int R.1 R.2) {H : Heap} {locs : List Loc} {ls : Array Slot} (Z : Dy tC kc ad D A s.heap σ H locs) (hl : lv_has ls 4 [(0, .ref (ad 0)), (1, .int x1), (2, .int x2)]) (h : f_X10_statute_41 x1 x2 y0 σ = some R) : W p l e r_X10_statute s m args below meth c H locs 1 5300 Q (F0 m 41 ls [.int y0]) := by
  have hx := C.1.1
  have hb := C.1.2.1
  unfold f_X10_statute_41 at h
  refine lv_istore_n (lv' := [(3, .int y0), (0, .ref (ad 0)), (1, .int x1), (2, .int x2)]) hx hb dX10_statute_41 rfl hl (by decide) rfl (fun ls hl => ?_)
  refine lv_aload_n hx hb dX10_statute_42 rfl (lv_at hl 1 rfl) ?_
  refine rg_X10_46 C Z dX10_statute_43 ?_
  refine lv_iconst (v := 0) hx hb dX10_statute_46 (by decide) ?_
  obtain ⟨σ8, eσ8, h⟩ := lb h
  refine rp_X10_215 C Z eσ8 dX10_statute_47 (fun H locs Z => ?_)
  refine lv_iload_n hx hb dX10_statute_50 rfl (lv_at hl 0 rfl) ?_
  refine lv_if_ne (tgt := 66) hx hb dX10_statute_51 (by decide) (fun c51 => ?_) (fun c51 => ?_)
  · have h := im h c51
    refine lv_bipush (v := (-2)) hx hb dX10_statute_66 (by decide) ?_
    refine lv_iload_n hx hb dX10_statute_68 rfl (lv_at hl 0 rfl) ?_
    refine lv_isub hx hb dX10_statute_69 ?_
    obtain rfl := Option.some.inj h
    exact hR _ _ _ _ _ Z dX10_statute_70 rfl
  · have h := ip h c51
    refine lv_aload_n hx hb dX10_statute_54 rfl (lv_at hl 1 rfl) ?_
    refine rg_X10_37 C Z dX10_statute_55 ?_
    refine lv_iload_n hx hb dX10_statute_58 rfl (lv_at hl 2 rfl) ?_
    refine lv_iload_n hx hb dX10_statute_59 rfl (lv_at hl 3 rfl) ?_
    obtain ⟨u9, hu9, h⟩ := ob h
    refine g_callVi (eC_ok adK adV) C Z (k_X2_enact hu9) lk_X10_228 (by decide) rfl rfl hl (by decide) rfl (Nat.le_of_ble_eq_true rfl) (rest := []) rfl dX10_statute_60 (fun H locs Z => ?_)
    refine lv_goto (tgt := 70) hx hb dX10_statute_63 (by decide) ?_
    obtain rfl := Option.some.inj h
    exact hR _ _ _ _ _ Z dX10_statute_70 rfl
def r_X10_inForce : Room := { frames := 2, cells := 0, slots := 0, locals := 43 }
set_option maxRecDepth 20000 in
theorem w_X10_inForce_0 {p : Program} {l : Launch} {e : Env} {s : State} {m : MethodId} {args : Array Value} {below : List Frame} {meth : Method} {c : Code} {Q : State → Prop} {D : va_G} {kc : Nat → ClassId} {ad : Nat → Nat} {A : Nat → Prop} {adK adV : Nat → Nat} (C : Cx (eC adK adV) p s m args c cX10_inForce 3 RX10 D kc A) {R : Int32} {x1 : Int32} {x2 : Int32} {σ : St} (hR : RTi 0 0 p l e r_X10_inForce s m args below meth c cX10_inForce tC kc ad D A Q .int R σ) {H : Heap} {locs : List Loc} {ls : Array Slot} (Z : Dy tC kc ad D A s.heap σ H locs) (hl : lv_has ls 3 [(0, .ref (ad 0)), (1, .int x1), (2, .int x2)]) (h : f_X10_inForce x1 x2 σ = some R) : W p l e r_X10_inForce s m args below meth c H locs 0 0 Q (F0 m 0 ls []) := by
  have hx := C.1.1
  have hb := C.1.2.1
  unfold f_X10_inForce at h
  refine lv_aload_n hx hb dX10_inForce_0 rfl (lv_at hl 0 rfl) ?_
  refine rg_X10_37 C Z dX10_inForce_1 ?_
  refine lv_iload_n hx hb dX10_inForce_4 rfl (lv_at hl 1 rfl) ?_
  refine g_callVi (eC_ok adK adV) C Z (k_X2_has x1 σ) lk_X10_231 (by decide) rfl rfl hl (by decide) rfl (Nat.le_of_ble_eq_true rfl) (rest := []) rfl dX10_inForce_5 (fun H locs Z => ?_)
  refine lv_if_eq (tgt := 18) hx hb dX10_inForce_8 (by decide) (fun c8 => ?_) (fun c8 => ?_)
  · have h := ip h c8
    refine lv_iconst (v := (-1)) hx hb dX10_inForce_18 (by decide) ?_
    obtain rfl := Option.some.inj h
    exact hR _ _ _ _ _ Z dX10_inForce_19 rfl
  · have h := im h c8
    refine lv_iload_n hx hb dX10_inForce_11 rfl (lv_at hl 2 rfl) ?_
    refine g_callSi (eC_ok adK adV) C Z (k_X10_isMinute x2 σ) lk_X10_125 hl (by decide) rfl (Nat.le_of_ble_eq_true rfl) (rest := []) rfl dX10_inForce_12 (fun H locs Z => ?_)
    refine lv_if_ne (tgt := 20) hx hb dX10_inForce_15 (by decide) (fun c15 => ?_) (fun c15 => ?_)
    · have h := im h c15
      refine lv_aload_n hx hb dX10_inForce_20 rfl (lv_at hl 0 rfl) ?_
      refine rg_X10_37 C Z dX10_inForce_21 ?_
      refine lv_iload_n hx hb dX10_inForce_24 rfl (lv_at hl 1 rfl) ?_
      refine lv_iload_n hx hb dX10_inForce_25 rfl (lv_at hl 2 rfl) ?_
      obtain ⟨v3, hv3, h⟩ := ob h
      refine g_callVi (eC_ok adK adV) C Z (k_X2_stands hv3) lk_X10_232 (by decide) rfl rfl hl (by decide) rfl (Nat.le_of_ble_eq_true rfl) (rest := []) rfl dX10_inForce_26 (fun H locs Z => ?_)
      obtain ⟨v4, ev4, h⟩ := lb h
      have hj : W p l e r_X10_inForce s m args below meth c H locs 0 0 Q (F0 m 37 ls [.int v4]) := by
        obtain rfl := Option.some.inj h
        exact hR _ _ _ _ _ Z dX10_inForce_37 rfl
      refine lv_if_eq (tgt := 36) hx hb dX10_inForce_29 (by decide) (fun c29 => ?_) (fun c29 => ?_)
      · rw [if_pos c29] at ev4
        refine lv_iconst (v := 0) hx hb dX10_inForce_36 (by decide) ?_
        exact tn_i ev4 hj
      · rw [if_neg c29] at ev4
        refine lv_iconst (v := 1) hx hb dX10_inForce_32 (by decide) ?_
        refine lv_goto (tgt := 37) hx hb dX10_inForce_33 (by decide) ?_
        exact tn_i ev4 hj
    · have h := ip h c15
      refine lv_iconst (v := (-1)) hx hb dX10_inForce_18 (by decide) ?_
      obtain rfl := Option.some.inj h
      exact hR _ _ _ _ _ Z dX10_inForce_19 rfl
theorem k_X10_inForce {l : Launch} {kc : Nat → ClassId} {ad : Nat → Nat} {D : va_G} {adK adV : Nat → Nat} {x1 : Int32} {x2 : Int32} {σ : St} {R : Int32} (h : f_X10_inForce x1 x2 σ = some R) : KC (eC adK adV) tC kc ad D l yX10_inForce (.code yX10_inForce cX10_inForce 3 (some .int)) r_X10_inForce [.ref (ad 0), .int x1, .int x2] (some (.int R)) σ σ := by
  refine g_enter (by decide) (Nat.le_of_ble_eq_true rfl) ?_
  intro p e s m args below meth c A hA C hr hlocks Z ls hl
  have hl : lv_has ls 3 [(0, .ref (ad 0)), (1, .int x1), (2, .int x2)] := hl
  exact w_X10_inForce_0 C (g_RTi C.1.1 C.1.2.1 hr hlocks hA)  Z hl h
def r_X10_canAsk : Room := { frames := 2, cells := 0, slots := 0, locals := 43 }
set_option maxRecDepth 20000 in
theorem w_X10_canAsk_39 {p : Program} {l : Launch} {e : Env} {s : State} {m : MethodId} {args : Array Value} {below : List Frame} {meth : Method} {c : Code} {Q : State → Prop} {D : va_G} {kc : Nat → ClassId} {ad : Nat → Nat} {A : Nat → Prop} {adK adV : Nat → Nat} (C : Cx (eC adK adV) p s m args c cX10_canAsk 6 RX10 D kc A) {R : Int32} {σ : St} (hR : RTi 0 0 p l e r_X10_canAsk s m args below meth c cX10_canAsk tC kc ad D A Q .boolean R σ) {H : Heap} {locs : List Loc} {ls : Array Slot} (Z : Dy tC kc ad D A s.heap σ H locs) (hl : lv_has ls 6 []) (h : f_X10_canAsk_39 σ = R) : W p l e r_X10_canAsk s m args below meth c H locs 0 0 Q (F0 m 39 ls []) := by
  have hx := C.1.1
  have hb := C.1.2.1
  unfold f_X10_canAsk_39 at h
  refine lv_iconst (v := 0) hx hb dX10_canAsk_39 (by decide) ?_
  subst h
  exact hR _ _ _ _ _ Z dX10_canAsk_40 rfl
set_option maxRecDepth 20000 in
theorem w_X10_canAsk_0 {p : Program} {l : Launch} {e : Env} {s : State} {m : MethodId} {args : Array Value} {below : List Frame} {meth : Method} {c : Code} {Q : State → Prop} {D : va_G} {kc : Nat → ClassId} {ad : Nat → Nat} {A : Nat → Prop} {adK adV : Nat → Nat} (C : Cx (eC adK adV) p s m args c cX10_canAsk 6 RX10 D kc A) {R : Int32} {x1 : Int32} {x2 : Int32} {x3 : Int32} {x4 : Int32} {x5 : Int32} {σ : St} (hR : RTi 0 0 p l e r_X10_canAsk s m args below meth c cX10_canAsk tC kc ad D A Q .boolean R σ) {H : Heap} {locs : List Loc} {ls : Array Slot} (Z : Dy tC kc ad D A s.heap σ H locs) (hl : lv_has ls 6 [(0, .ref (ad 0)), (1, .int x1), (2, .int x2), (3, .int x3), (4, .int x4), (5, .int x5)]) (h : f_X10_canAsk x1 x2 x3 x4 x5 σ = R) : W p l e r_X10_canAsk s m args below meth c H locs 0 0 Q (F0 m 0 ls []) := by
  have hx := C.1.1
  have hb := C.1.2.1
  unfold f_X10_canAsk at h
  refine lv_iload_n hx hb dX10_canAsk_0 rfl (lv_at hl 1 rfl) ?_
  refine g_callSi (eC_ok adK adV) C Z (k_X10_isAuthor x1 σ) lk_X10_218 hl (by decide) rfl (Nat.le_of_ble_eq_true rfl) (rest := []) rfl dX10_canAsk_1 (fun H locs Z => ?_)
  refine lv_if_eq (tgt := 39) hx hb dX10_canAsk_4 (by decide) (fun c4 => ?_) (fun c4 => ?_)
  · have h := ip h c4
    exact w_X10_canAsk_39 C hR Z (lv_sub hl [] rfl) h
  · have h := im h c4
    refine lv_aload_n hx hb dX10_canAsk_7 rfl (lv_at hl 0 rfl) ?_
    refine rg_X10_23 C Z dX10_canAsk_8 ?_
    refine lv_iload_n hx hb dX10_canAsk_11 rfl (lv_at hl 2 rfl) ?_
    refine g_callVi (eC_ok adK adV) C Z (k_X7_has x2 σ) lk_X10_119 (by decide) rfl rfl hl (by decide) rfl (Nat.le_of_ble_eq_true rfl) (rest := []) rfl dX10_canAsk_12 (fun H locs Z => ?_)
    refine lv_if_eq (tgt := 39) hx hb dX10_canAsk_15 (by decide) (fun c15 => ?_) (fun c15 => ?_)
    · have h := ip h c15
      exact w_X10_canAsk_39 C hR Z (lv_sub hl [] rfl) h
    · have h := im h c15
      refine lv_iload_n hx hb dX10_canAsk_18 rfl (lv_at hl 3 rfl) ?_
      refine lv_iload hx hb dX10_canAsk_19 (lv_at hl 4 rfl) ?_
      refine g_callSi (eC_ok adK adV) C Z (k_X6_isCell x3 x4 σ) lk_X10_103 hl (by decide) rfl (Nat.le_of_ble_eq_true rfl) (rest := []) rfl dX10_canAsk_21 (fun H locs Z => ?_)
      refine lv_if_eq (tgt := 39) hx hb dX10_canAsk_24 (by decide) (fun c24 => ?_) (fun c24 => ?_)
      · have h := ip h c24
        exact w_X10_canAsk_39 C hR Z (lv_sub hl [] rfl) h
      · have h := im h c24
        refine lv_iload hx hb dX10_canAsk_27 (lv_at hl 5 rfl) ?_
        refine g_callSi (eC_ok adK adV) C Z (k_X10_isMinute x5 σ) lk_X10_125 hl (by decide) rfl (Nat.le_of_ble_eq_true rfl) (rest := []) rfl dX10_canAsk_29 (fun H locs Z => ?_)
        refine lv_if_eq (tgt := 39) hx hb dX10_canAsk_32 (by decide) (fun c32 => ?_) (fun c32 => ?_)
        · have h := ip h c32
          exact w_X10_canAsk_39 C hR Z (lv_sub hl [] rfl) h
        · have h := im h c32
          refine lv_iconst (v := 1) hx hb dX10_canAsk_35 (by decide) ?_
          refine lv_goto (tgt := 40) hx hb dX10_canAsk_36 (by decide) ?_
          subst h
          exact hR _ _ _ _ _ Z dX10_canAsk_40 rfl
theorem k_X10_canAsk {l : Launch} {kc : Nat → ClassId} {ad : Nat → Nat} {D : va_G} {adK adV : Nat → Nat} (x1 : Int32) (x2 : Int32) (x3 : Int32) (x4 : Int32) (x5 : Int32) (σ : St) : KC (eC adK adV) tC kc ad D l yX10_canAsk (.code yX10_canAsk cX10_canAsk 6 (some .boolean)) r_X10_canAsk [.ref (ad 0), .int x1, .int x2, .int x3, .int x4, .int x5] (some (.int (f_X10_canAsk x1 x2 x3 x4 x5 σ))) σ σ := by
  refine g_enter (by decide) (Nat.le_of_ble_eq_true rfl) ?_
  intro p e s m args below meth c A hA C hr hlocks Z ls hl
  have hl : lv_has ls 6 [(0, .ref (ad 0)), (1, .int x1), (2, .int x2), (3, .int x3), (4, .int x4), (5, .int x5)] := hl
  exact w_X10_canAsk_0 C (g_RTi C.1.1 C.1.2.1 hr hlocks hA)  Z hl rfl
def r_X10_askOf : Room := { frames := 3, cells := 0, slots := 0, locals := 65 }
set_option maxRecDepth 20000 in
theorem w_X10_askOf_0 {p : Program} {l : Launch} {e : Env} {s : State} {m : MethodId} {args : Array Value} {below : List Frame} {meth : Method} {c : Code} {Q : State → Prop} {D : va_G} {kc : Nat → ClassId} {ad : Nat → Nat} {A : Nat → Prop} {adK adV : Nat → Nat} (C : Cx (eC adK adV) p s m args c cX10_askOf 5 RX10 D kc A) {R : St} {x1 : Int32} {x2 : Int32} {x3 : Int32} {x4 : Int32} {σ : St} (hR : RTv 0 0 p l e r_X10_askOf s m args below meth c cX10_askOf tC kc ad D A Q R) {H : Heap} {locs : List Loc} {ls : Array Slot} (Z : Dy tC kc ad D A s.heap σ H locs) (hl : lv_has ls 5 [(0, .ref (ad 0)), (1, .int x1), (2, .int x2), (3, .int x3), (4, .int x4)]) (h : f_X10_askOf x1 x2 x3 x4 σ = some R) : W p l e r_X10_askOf s m args below meth c H locs 0 0 Q (F0 m 0 ls []) := by
  have hx := C.1.1
  have hb := C.1.2.1
  unfold f_X10_askOf at h
  refine lv_aload_n hx hb dX10_askOf_0 rfl (lv_at hl 0 rfl) ?_
  refine rg_X10_50 C Z dX10_askOf_1 ?_
  refine lv_lconst (v := 0) hx hb dX10_askOf_4 (by decide) ?_
  obtain ⟨σ29, hσ29, h⟩ := ob h
  refine g_callSv (eC_ok adK adV) C Z (k_J7_fill_d0a16 iaC11 hσ29) lk_X10_154 hl (by decide) rfl (Nat.le_of_ble_eq_true rfl) (rest := []) rfl dX10_askOf_5 (fun H locs Z => ?_)
  refine lv_aload_n hx hb dX10_askOf_8 rfl (lv_at hl 0 rfl) ?_
  refine rg_X10_50 C Z dX10_askOf_9 ?_
  refine lv_iconst (v := 0) hx hb dX10_askOf_12 (by decide) ?_
  refine lv_iload hx hb dX10_askOf_13 (lv_at hl 4 rfl) ?_
  refine lv_i2l (v := x4.toInt64) hx hb dX10_askOf_15 rfl ?_
  obtain ⟨σ30, hσ30, h⟩ := ob h
  refine g_last C Z iaC11 hσ30 dX10_askOf_16 (fun H locs Z => ?_)
  refine lv_aload_n hx hb dX10_askOf_17 rfl (lv_at hl 0 rfl) ?_
  refine rg_X10_50 C Z dX10_askOf_18 ?_
  refine lv_iconst (v := 1) hx hb dX10_askOf_21 (by decide) ?_
  refine lv_iload_n hx hb dX10_askOf_22 rfl (lv_at hl 2 rfl) ?_
  refine lv_i2l (v := x2.toInt64) hx hb dX10_askOf_23 rfl ?_
  obtain ⟨σ31, hσ31, h⟩ := ob h
  refine g_last C Z iaC11 hσ31 dX10_askOf_24 (fun H locs Z => ?_)
  refine lv_aload_n hx hb dX10_askOf_25 rfl (lv_at hl 0 rfl) ?_
  refine rg_X10_50 C Z dX10_askOf_26 ?_
  refine lv_iconst (v := 2) hx hb dX10_askOf_29 (by decide) ?_
  refine lv_iload_n hx hb dX10_askOf_30 rfl (lv_at hl 3 rfl) ?_
  refine lv_i2l (v := x3.toInt64) hx hb dX10_askOf_31 rfl ?_
  obtain ⟨σ32, hσ32, h⟩ := ob h
  refine g_last C Z iaC11 hσ32 dX10_askOf_32 (fun H locs Z => ?_)
  refine lv_aload_n hx hb dX10_askOf_33 rfl (lv_at hl 0 rfl) ?_
  refine rg_X10_50 C Z dX10_askOf_34 ?_
  refine lv_iconst (v := 3) hx hb dX10_askOf_37 (by decide) ?_
  refine lv_aload_n hx hb dX10_askOf_38 rfl (lv_at hl 0 rfl) ?_
  refine rg_X10_16 C Z dX10_askOf_39 ?_
  refine lv_iload_n hx hb dX10_askOf_42 rfl (lv_at hl 2 rfl) ?_
  refine lv_iload_n hx hb dX10_askOf_43 rfl (lv_at hl 3 rfl) ?_
  obtain ⟨v33, hv33, h⟩ := ob h
  refine g_callVi (eC_ok adK adV) C Z (k_X6_depthAt hv33) lk_X10_235 (by decide) rfl rfl hl (by decide) rfl (Nat.le_of_ble_eq_true rfl) (rest := [.int 3, .ref (ad 11)]) rfl dX10_askOf_44 (fun H locs Z => ?_)
  refine lv_i2l (v := v33.toInt64) hx hb dX10_askOf_47 rfl ?_
  obtain ⟨σ34, hσ34, h⟩ := ob h
  refine g_last C Z iaC11 hσ34 dX10_askOf_48 (fun H locs Z => ?_)
  refine lv_aload_n hx hb dX10_askOf_49 rfl (lv_at hl 0 rfl) ?_
  refine rg_X10_23 C Z dX10_askOf_50 ?_
  refine lv_iload_n hx hb dX10_askOf_53 rfl (lv_at hl 1 rfl) ?_
  refine g_callVi (eC_ok adK adV) C Z (k_X7_has x1 σ34) lk_X10_119 (by decide) rfl rfl hl (by decide) rfl (Nat.le_of_ble_eq_true rfl) (rest := []) rfl dX10_askOf_54 (fun H locs Z => ?_)
  refine lv_if_eq (tgt := 126) hx hb dX10_askOf_57 (by decide) (fun c57 => ?_) (fun c57 => ?_)
  · have h := ip h c57
    obtain rfl := Option.some.inj h
    exact hR _ _ _ _ Z dX10_askOf_126
  · have h := im h c57
    refine lv_aload_n hx hb dX10_askOf_60 rfl (lv_at hl 0 rfl) ?_
    refine rg_X10_50 C Z dX10_askOf_61 ?_
    refine lv_iconst (v := 4) hx hb dX10_askOf_64 (by decide) ?_
    refine lv_aload_n hx hb dX10_askOf_65 rfl (lv_at hl 0 rfl) ?_
    refine rg_X10_23 C Z dX10_askOf_66 ?_
    refine rg_X10_188 C Z dX10_askOf_69 ?_
    refine lv_iload_n hx hb dX10_askOf_72 rfl (lv_at hl 1 rfl) ?_
    obtain ⟨v35, hv35, h⟩ := ob h
    refine g_iald C Z iaC18 hv35 dX10_askOf_73 ?_
    refine lv_i2l (v := v35.toInt64) hx hb dX10_askOf_74 rfl ?_
    obtain ⟨σ36, hσ36, h⟩ := ob h
    refine g_last C Z iaC11 hσ36 dX10_askOf_75 (fun H locs Z => ?_)
    refine lv_aload_n hx hb dX10_askOf_76 rfl (lv_at hl 0 rfl) ?_
    refine rg_X10_50 C Z dX10_askOf_77 ?_
    refine lv_iconst (v := 5) hx hb dX10_askOf_80 (by decide) ?_
    refine lv_aload_n hx hb dX10_askOf_81 rfl (lv_at hl 0 rfl) ?_
    refine rg_X10_23 C Z dX10_askOf_82 ?_
    refine rg_X10_238 C Z dX10_askOf_85 ?_
    refine lv_iload_n hx hb dX10_askOf_88 rfl (lv_at hl 1 rfl) ?_
    obtain ⟨v37, hv37, h⟩ := ob h
    refine g_iald C Z iaC19 hv37 dX10_askOf_89 ?_
    refine lv_i2l (v := v37.toInt64) hx hb dX10_askOf_90 rfl ?_
    obtain ⟨σ38, hσ38, h⟩ := ob h
    refine g_last C Z iaC11 hσ38 dX10_askOf_91 (fun H locs Z => ?_)
    refine lv_aload_n hx hb dX10_askOf_92 rfl (lv_at hl 0 rfl) ?_
    refine rg_X10_50 C Z dX10_askOf_93 ?_
    refine lv_bipush (v := 6) hx hb dX10_askOf_96 (by decide) ?_
    refine lv_aload_n hx hb dX10_askOf_98 rfl (lv_at hl 0 rfl) ?_
    refine rg_X10_23 C Z dX10_askOf_99 ?_
    refine rg_X10_241 C Z dX10_askOf_102 ?_
    refine lv_iload_n hx hb dX10_askOf_105 rfl (lv_at hl 1 rfl) ?_
    obtain ⟨v39, hv39, h⟩ := ob h
    refine g_iald C Z iaC21 hv39 dX10_askOf_106 ?_
    refine lv_i2l (v := v39.toInt64) hx hb dX10_askOf_107 rfl ?_
    obtain ⟨σ40, hσ40, h⟩ := ob h
    refine g_last C Z iaC11 hσ40 dX10_askOf_108 (fun H locs Z => ?_)
    refine lv_aload_n hx hb dX10_askOf_109 rfl (lv_at hl 0 rfl) ?_
    refine rg_X10_50 C Z dX10_askOf_110 ?_
    refine lv_bipush (v := 7) hx hb dX10_askOf_113 (by decide) ?_
    refine lv_aload_n hx hb dX10_askOf_115 rfl (lv_at hl 0 rfl) ?_
    refine rg_X10_23 C Z dX10_askOf_116 ?_
    refine rg_X10_131 C Z dX10_askOf_119 ?_
    refine lv_iload_n hx hb dX10_askOf_122 rfl (lv_at hl 1 rfl) ?_
    obtain ⟨v41, hv41, h⟩ := ob h
    refine g_iald C Z iaC20 hv41 dX10_askOf_123 ?_
    refine lv_i2l (v := v41.toInt64) hx hb dX10_askOf_124 rfl ?_
    obtain ⟨σ42, hσ42, h⟩ := ob h
    refine g_last C Z iaC11 hσ42 dX10_askOf_125 (fun H locs Z => ?_)
    obtain rfl := Option.some.inj h
    exact hR _ _ _ _ Z dX10_askOf_126
theorem k_X10_askOf {l : Launch} {kc : Nat → ClassId} {ad : Nat → Nat} {D : va_G} {adK adV : Nat → Nat} {x1 : Int32} {x2 : Int32} {x3 : Int32} {x4 : Int32} {σ : St} {R : St} (h : f_X10_askOf x1 x2 x3 x4 σ = some R) : KC (eC adK adV) tC kc ad D l yX10_askOf (.code yX10_askOf cX10_askOf 5 none) r_X10_askOf [.ref (ad 0), .int x1, .int x2, .int x3, .int x4] none σ R := by
  refine g_enter (by decide) (Nat.le_of_ble_eq_true rfl) ?_
  intro p e s m args below meth c A hA C hr hlocks Z ls hl
  have hl : lv_has ls 5 [(0, .ref (ad 0)), (1, .int x1), (2, .int x2), (3, .int x3), (4, .int x4)] := hl
  exact w_X10_askOf_0 C (g_RTv C.1.1 C.1.2.1 hr hlocks hA)  Z hl h
def r_X10_findMay : Room := { frames := 5, cells := 0, slots := 0, locals := 126 }
set_option maxRecDepth 20000 in
theorem w_X10_findMay_0 {p : Program} {l : Launch} {e : Env} {s : State} {m : MethodId} {args : Array Value} {below : List Frame} {meth : Method} {c : Code} {Q : State → Prop} {D : va_G} {kc : Nat → ClassId} {ad : Nat → Nat} {A : Nat → Prop} {adK adV : Nat → Nat} (C : Cx (eC adK adV) p s m args c cX10_findMay 8 RX10 D kc A) {R : Int32 × St} {x1 : Int32} {x2 : Int32} {x3 : Int32} {x4 : Int32} {x5 : Int32} {x6 : Int32} {σ : St} (hR : RTi 0 0 p l e r_X10_findMay s m args below meth c cX10_findMay tC kc ad D A Q .int R.1 R.2) {H : Heap} {locs : List Loc} {ls : Array Slot} (Z : Dy tC kc ad D A s.heap σ H locs) (hl : lv_has ls 8 [(0, .ref (ad 0)), (1, .int x1), (2, .int x2), (3, .int x3), (4, .int x4), (5, .int x5), (6, .int x6)]) (h : f_X10_findMay x1 x2 x3 x4 x5 x6 σ = some R) : W p l e r_X10_findMay s m args below meth c H locs 0 0 Q (F0 m 0 ls []) := by
  have hx := C.1.1
  have hb := C.1.2.1
  unfold f_X10_findMay at h
  refine lv_aload_n hx hb dX10_findMay_0 rfl (lv_at hl 0 rfl) ?_
  refine lv_iload_n hx hb dX10_findMay_1 rfl (lv_at hl 3 rfl) ?_
  refine lv_iload hx hb dX10_findMay_2 (lv_at hl 4 rfl) ?_
  refine lv_iload hx hb dX10_findMay_4 (lv_at hl 5 rfl) ?_
  refine lv_iload hx hb dX10_findMay_6 (lv_at hl 6 rfl) ?_
  obtain ⟨σ11, hσ11, h⟩ := ob h
  refine g_callVv (eC_ok adK adV) C Z (k_X10_askOf hσ11) lk_X10_244 (by decide) rfl rfl hl (by decide) rfl (Nat.le_of_ble_eq_true rfl) (rest := []) rfl dX10_findMay_8 (fun H locs Z => ?_)
  refine lv_iload_n hx hb dX10_findMay_11 rfl (lv_at hl 1 rfl) ?_
  refine lv_iconst (v := 2) hx hb dX10_findMay_12 (by decide) ?_
  obtain ⟨v12, ev12, h⟩ := lb h
  have hj : W p l e r_X10_findMay s m args below meth c H locs 0 0 Q (F0 m 21 ls [.int v12]) := by
    refine lv_istore (lv' := [(7, .int v12), (0, .ref (ad 0)), (1, .int x1), (2, .int x2), (3, .int x3), (4, .int x4), (5, .int x5), (6, .int x6)]) hx hb dX10_findMay_21 hl (by decide) rfl (fun ls hl => ?_)
    refine lv_aload_n hx hb dX10_findMay_23 rfl (lv_at hl 1 rfl) ?_
    refine rg_X10_50 C Z dX10_findMay_24 ?_
    refine lv_bipush (v := 8) hx hb dX10_findMay_27 (by decide) ?_
    refine lv_aload_n hx hb dX10_findMay_29 rfl (lv_at hl 1 rfl) ?_
    refine rg_X10_16 C Z dX10_findMay_30 ?_
    refine lv_iload hx hb dX10_findMay_33 (lv_at hl 0 rfl) ?_
    refine lv_iconst (v := 0) hx hb dX10_findMay_35 (by decide) ?_
    refine lv_iload hx hb dX10_findMay_36 (lv_at hl 5 rfl) ?_
    refine lv_iload hx hb dX10_findMay_38 (lv_at hl 6 rfl) ?_
    refine lv_aload_n hx hb dX10_findMay_40 rfl (lv_at hl 1 rfl) ?_
    refine lv_iload hx hb dX10_findMay_41 (lv_at hl 0 rfl) ?_
    refine lv_iload hx hb dX10_findMay_43 (lv_at hl 7 rfl) ?_
    obtain ⟨u13, hu13, h⟩ := ob h
    refine g_callVi (eC_ok adK adV) C Z (k_X10_reachOf hu13) lk_X10_150 (by decide) rfl rfl hl (by decide) rfl (Nat.le_of_ble_eq_true rfl) (rest := [.int x5, .int x4, .int 0, .int v12, .ref (ad 1), .int 8, .ref (ad 11)]) rfl dX10_findMay_45 (fun H locs Z => ?_)
    obtain ⟨v14, hv14, h⟩ := ob h
    refine g_callVi (eC_ok adK adV) C Z (k_X6_isNear hv14) lk_X10_179 (by decide) rfl rfl hl (by decide) rfl (Nat.le_of_ble_eq_true rfl) (rest := [.int 8, .ref (ad 11)]) rfl dX10_findMay_48 (fun H locs Z => ?_)
    obtain ⟨v15, ev15, h⟩ := lb h
    have hj : W p l e r_X10_findMay s m args below meth c H locs 0 0 Q (F0 m 59 ls [.long v15, .int 8, .ref (ad 11)]) := by
      obtain ⟨σ16, hσ16, h⟩ := ob h
      refine g_last C Z iaC11 hσ16 dX10_findMay_59 (fun H locs Z => ?_)
      refine lv_aload_n hx hb dX10_findMay_60 rfl (lv_at hl 1 rfl) ?_
      refine rg_X10_37 C Z dX10_findMay_61 ?_
      refine lv_iload_n hx hb dX10_findMay_64 rfl (lv_at hl 2 rfl) ?_
      refine lv_iload_n hx hb dX10_findMay_65 rfl (lv_at hl 3 rfl) ?_
      refine lv_iload hx hb dX10_findMay_66 (lv_at hl 7 rfl) ?_
      refine lv_aload_n hx hb dX10_findMay_68 rfl (lv_at hl 1 rfl) ?_
      refine rg_X10_50 C Z dX10_findMay_69 ?_
      obtain ⟨u17, hu17, h⟩ := ob h
      refine g_callVi (eC_ok adK adV) C Z (k_X2_findClause iaC11 hu17) lk_X10_160 (by decide) rfl rfl hl (by decide) rfl (Nat.le_of_ble_eq_true rfl) (rest := []) rfl dX10_findMay_72 (fun H locs Z => ?_)
      obtain rfl := Option.some.inj h
      exact hR _ _ _ _ _ Z dX10_findMay_75 rfl
    refine lv_if_eq (tgt := 58) hx hb dX10_findMay_51 (by decide) (fun c51 => ?_) (fun c51 => ?_)
    · rw [if_pos c51] at ev15
      refine lv_lconst (v := 0) hx hb dX10_findMay_58 (by decide) ?_
      exact tn_l ev15 hj
    · rw [if_neg c51] at ev15
      refine lv_lconst (v := 1) hx hb dX10_findMay_54 (by decide) ?_
      refine lv_goto (tgt := 59) hx hb dX10_findMay_55 (by decide) ?_
      exact tn_l ev15 hj
  refine lv_icmp_ne (tgt := 20) hx hb dX10_findMay_13 (by decide) (fun c13 => ?_) (fun c13 => ?_)
  · rw [if_neg c13] at ev12
    refine lv_iload_n hx hb dX10_findMay_20 rfl (lv_at hl 1 rfl) ?_
    exact tn_i ev12 hj
  · rw [if_pos c13] at ev12
    refine lv_iconst (v := 0) hx hb dX10_findMay_16 (by decide) ?_
    refine lv_goto (tgt := 21) hx hb dX10_findMay_17 (by decide) ?_
    exact tn_i ev12 hj
theorem k_X10_findMay {l : Launch} {kc : Nat → ClassId} {ad : Nat → Nat} {D : va_G} {adK adV : Nat → Nat} {x1 : Int32} {x2 : Int32} {x3 : Int32} {x4 : Int32} {x5 : Int32} {x6 : Int32} {σ : St} {R : Int32 × St} (h : f_X10_findMay x1 x2 x3 x4 x5 x6 σ = some R) : KC (eC adK adV) tC kc ad D l yX10_findMay (.code yX10_findMay cX10_findMay 8 (some .int)) r_X10_findMay [.ref (ad 0), .int x1, .int x2, .int x3, .int x4, .int x5, .int x6] (some (.int R.1)) σ R.2 := by
  refine g_enter (by decide) (Nat.le_of_ble_eq_true rfl) ?_
  intro p e s m args below meth c A hA C hr hlocks Z ls hl
  have hl : lv_has ls 8 [(0, .ref (ad 0)), (1, .int x1), (2, .int x2), (3, .int x3), (4, .int x4), (5, .int x5), (6, .int x6)] := hl
  exact w_X10_findMay_0 C (g_RTi C.1.1 C.1.2.1 hr hlocks hA)  Z hl h
def r_X10_meshFor : Room := { frames := 4, cells := 0, slots := 0, locals := 101 }
set_option maxRecDepth 20000 in
theorem w_X10_meshFor_0 {p : Program} {l : Launch} {e : Env} {s : State} {m : MethodId} {args : Array Value} {below : List Frame} {meth : Method} {c : Code} {Q : State → Prop} {D : va_G} {kc : Nat → ClassId} {ad : Nat → Nat} {A : Nat → Prop} {adK adV : Nat → Nat} (C : Cx (eC adK adV) p s m args c cX10_meshFor 6 RX10 D kc A) {R : Int64 × St} {x1 : Int32} {x2 : Int32} {x3 : Int32} {x4 : Int32} {x5 : Int32} {σ : St} (hR : RTl 0 0 p l e r_X10_meshFor s m args below meth c cX10_meshFor tC kc ad D A Q R.1 R.2) {H : Heap} {locs : List Loc} {ls : Array Slot} (Z : Dy tC kc ad D A s.heap σ H locs) (hl : lv_has ls 6 [(0, .ref (ad 0)), (1, .int x1), (2, .int x2), (3, .int x3), (4, .int x4), (5, .int x5)]) (h : f_X10_meshFor x1 x2 x3 x4 x5 σ = some R) : W p l e r_X10_meshFor s m args below meth c H locs 0 0 Q (F0 m 0 ls []) := by
  have hx := C.1.1
  have hb := C.1.2.1
  unfold f_X10_meshFor at h
  refine lv_aload_n hx hb dX10_meshFor_0 rfl (lv_at hl 0 rfl) ?_
  refine lv_iload_n hx hb dX10_meshFor_1 rfl (lv_at hl 2 rfl) ?_
  refine lv_iload_n hx hb dX10_meshFor_2 rfl (lv_at hl 3 rfl) ?_
  refine lv_iload hx hb dX10_meshFor_3 (lv_at hl 4 rfl) ?_
  refine lv_iload hx hb dX10_meshFor_5 (lv_at hl 5 rfl) ?_
  obtain ⟨σ4, hσ4, h⟩ := ob h
  refine g_callVv (eC_ok adK adV) C Z (k_X10_askOf hσ4) lk_X10_244 (by decide) rfl rfl hl (by decide) rfl (Nat.le_of_ble_eq_true rfl) (rest := []) rfl dX10_meshFor_7 (fun H locs Z => ?_)
  refine lv_aload_n hx hb dX10_meshFor_10 rfl (lv_at hl 0 rfl) ?_
  refine rg_X10_37 C Z dX10_meshFor_11 ?_
  refine lv_aload_n hx hb dX10_meshFor_14 rfl (lv_at hl 0 rfl) ?_
  refine rg_X10_37 C Z dX10_meshFor_15 ?_
  refine lv_iload_n hx hb dX10_meshFor_18 rfl (lv_at hl 1 rfl) ?_
  refine lv_bipush (v := 6) hx hb dX10_meshFor_19 (by decide) ?_
  refine lv_iload hx hb dX10_meshFor_21 (lv_at hl 5 rfl) ?_
  refine lv_aload_n hx hb dX10_meshFor_23 rfl (lv_at hl 0 rfl) ?_
  refine rg_X10_50 C Z dX10_meshFor_24 ?_
  obtain ⟨u5, hu5, h⟩ := ob h
  refine g_callVi (eC_ok adK adV) C Z (k_X2_findClause iaC11 hu5) lk_X10_160 (by decide) rfl rfl hl (by decide) rfl (Nat.le_of_ble_eq_true rfl) (rest := [.ref (ad 4)]) rfl dX10_meshFor_27 (fun H locs Z => ?_)
  refine lv_aload_n hx hb dX10_meshFor_30 rfl (lv_at hl 0 rfl) ?_
  refine rg_X10_50 C Z dX10_meshFor_31 ?_
  obtain ⟨u6, hu6, h⟩ := ob h
  refine g_callVl (eC_ok adK adV) C Z (k_X2_sumOf iaC11 hu6) lk_X10_164 (by decide) rfl rfl hl (by decide) rfl (Nat.le_of_ble_eq_true rfl) (rest := []) rfl dX10_meshFor_34 (fun H locs Z => ?_)
  obtain rfl := Option.some.inj h
  exact hR _ _ _ _ Z dX10_meshFor_37
theorem k_X10_meshFor {l : Launch} {kc : Nat → ClassId} {ad : Nat → Nat} {D : va_G} {adK adV : Nat → Nat} {x1 : Int32} {x2 : Int32} {x3 : Int32} {x4 : Int32} {x5 : Int32} {σ : St} {R : Int64 × St} (h : f_X10_meshFor x1 x2 x3 x4 x5 σ = some R) : KC (eC adK adV) tC kc ad D l yX10_meshFor (.code yX10_meshFor cX10_meshFor 6 (some .long)) r_X10_meshFor [.ref (ad 0), .int x1, .int x2, .int x3, .int x4, .int x5] (some (.long R.1)) σ R.2 := by
  refine g_enter (by decide) (Nat.le_of_ble_eq_true rfl) ?_
  intro p e s m args below meth c A hA C hr hlocks Z ls hl
  have hl : lv_has ls 6 [(0, .ref (ad 0)), (1, .int x1), (2, .int x2), (3, .int x3), (4, .int x4), (5, .int x5)] := hl
  exact w_X10_meshFor_0 C (g_RTl C.1.1 C.1.2.1 hr hlocks hA)  Z hl h
def r_X10_may : Room := { frames := 6, cells := 0, slots := 0, locals := 153 }
set_option maxRecDepth 20000 in
theorem w_X10_may_0 {p : Program} {l : Launch} {e : Env} {s : State} {m : MethodId} {args : Array Value} {below : List Frame} {meth : Method} {c : Code} {Q : State → Prop} {D : va_G} {kc : Nat → ClassId} {ad : Nat → Nat} {A : Nat → Prop} {adK adV : Nat → Nat} (C : Cx (eC adK adV) p s m args c cX10_may 7 RX10 D kc A) {R : Int32 × St} {x1 : Int32} {x2 : Int32} {x3 : Int32} {x4 : Int32} {x5 : Int32} {x6 : Int32} {σ : St} (hR : RTi 0 0 p l e r_X10_may s m args below meth c cX10_may tC kc ad D A Q .int R.1 R.2) {H : Heap} {locs : List Loc} {ls : Array Slot} (Z : Dy tC kc ad D A s.heap σ H locs) (hl : lv_has ls 7 [(0, .ref (ad 0)), (1, .int x1), (2, .int x2), (3, .int x3), (4, .int x4), (5, .int x5), (6, .int x6)]) (h : f_X10_may x1 x2 x3 x4 x5 x6 σ = some R) : W p l e r_X10_may s m args below meth c H locs 0 0 Q (F0 m 0 ls []) := by
  have hx := C.1.1
  have hb := C.1.2.1
  unfold f_X10_may at h
  refine lv_aload_n hx hb dX10_may_0 rfl (lv_at hl 0 rfl) ?_
  refine lv_iload_n hx hb dX10_may_1 rfl (lv_at hl 1 rfl) ?_
  refine lv_iload_n hx hb dX10_may_2 rfl (lv_at hl 3 rfl) ?_
  refine lv_iload hx hb dX10_may_3 (lv_at hl 4 rfl) ?_
  refine lv_iload hx hb dX10_may_5 (lv_at hl 5 rfl) ?_
  refine lv_iload hx hb dX10_may_7 (lv_at hl 6 rfl) ?_
  refine g_callVi (eC_ok adK adV) C Z (k_X10_canAsk x1 x3 x4 x5 x6 σ) lk_X10_248 (by decide) rfl rfl hl (by decide) rfl (Nat.le_of_ble_eq_true rfl) (rest := []) rfl dX10_may_9 (fun H locs Z => ?_)
  refine lv_if_eq (tgt := 24) hx hb dX10_may_12 (by decide) (fun c12 => ?_) (fun c12 => ?_)
  · have h := ip h c12
    refine lv_iconst (v := (-1)) hx hb dX10_may_24 (by decide) ?_
    obtain rfl := Option.some.inj h
    exact hR _ _ _ _ _ Z dX10_may_25 rfl
  · have h := im h c12
    refine lv_iload_n hx hb dX10_may_15 rfl (lv_at hl 2 rfl) ?_
    refine lv_iconst (v := 0) hx hb dX10_may_16 (by decide) ?_
    refine lv_iconst (v := 4) hx hb dX10_may_17 (by decide) ?_
    refine g_callSi (eC_ok adK adV) C Z (k_X10_lies x2 0 4 σ) lk_X10_99 hl (by decide) rfl (Nat.le_of_ble_eq_true rfl) (rest := []) rfl dX10_may_18 (fun H locs Z => ?_)
    refine lv_if_ne (tgt := 26) hx hb dX10_may_21 (by decide) (fun c21 => ?_) (fun c21 => ?_)
    · have h := im h c21
      refine lv_aload_n hx hb dX10_may_26 rfl (lv_at hl 0 rfl) ?_
      refine rg_X10_37 C Z dX10_may_27 ?_
      refine lv_aload_n hx hb dX10_may_30 rfl (lv_at hl 0 rfl) ?_
      refine lv_iload_n hx hb dX10_may_31 rfl (lv_at hl 1 rfl) ?_
      refine lv_iload_n hx hb dX10_may_32 rfl (lv_at hl 2 rfl) ?_
      refine lv_iload_n hx hb dX10_may_33 rfl (lv_at hl 3 rfl) ?_
      refine lv_iload hx hb dX10_may_34 (lv_at hl 4 rfl) ?_
      refine lv_iload hx hb dX10_may_36 (lv_at hl 5 rfl) ?_
      refine lv_iload hx hb dX10_may_38 (lv_at hl 6 rfl) ?_
      obtain ⟨u5, hu5, h⟩ := ob h
      refine g_callVi (eC_ok adK adV) C Z (k_X10_findMay hu5) lk_X10_251 (by decide) rfl rfl hl (by decide) rfl (Nat.le_of_ble_eq_true rfl) (rest := [.ref (ad 4)]) rfl dX10_may_40 (fun H locs Z => ?_)
      refine lv_iload_n hx hb dX10_may_43 rfl (lv_at hl 2 rfl) ?_
      obtain ⟨v6, hv6, h⟩ := ob h
      refine g_callVi (eC_ok adK adV) C Z (k_X2_allows hv6) lk_X10_254 (by decide) rfl rfl hl (by decide) rfl (Nat.le_of_ble_eq_true rfl) (rest := []) rfl dX10_may_44 (fun H locs Z => ?_)
      obtain ⟨v7, ev7, h⟩ := lb h
      have hj : W p l e r_X10_may s m args below meth c H locs 0 0 Q (F0 m 55 ls [.int v7]) := by
        obtain rfl := Option.some.inj h
        exact hR _ _ _ _ _ Z dX10_may_55 rfl
      refine lv_if_eq (tgt := 54) hx hb dX10_may_47 (by decide) (fun c47 => ?_) (fun c47 => ?_)
      · rw [if_pos c47] at ev7
        refine lv_iconst (v := 0) hx hb dX10_may_54 (by decide) ?_
        exact tn_i ev7 hj
      · rw [if_neg c47] at ev7
        refine lv_iconst (v := 1) hx hb dX10_may_50 (by decide) ?_
        refine lv_goto (tgt := 55) hx hb dX10_may_51 (by decide) ?_
        exact tn_i ev7 hj
    · have h := ip h c21
      refine lv_iconst (v := (-1)) hx hb dX10_may_24 (by decide) ?_
      obtain rfl := Option.some.inj h
      exact hR _ _ _ _ _ Z dX10_may_25 rfl
theorem k_X10_may {l : Launch} {kc : Nat → ClassId} {ad : Nat → Nat} {D : va_G} {adK adV : Nat → Nat} {x1 : Int32} {x2 : Int32} {x3 : Int32} {x4 : Int32} {x5 : Int32} {x6 : Int32} {σ : St} {R : Int32 × St} (h : f_X10_may x1 x2 x3 x4 x5 x6 σ = some R) : KC (eC adK adV) tC kc ad D l yX10_may (.code yX10_may cX10_may 7 (some .int)) r_X10_may [.ref (ad 0), .int x1, .int x2, .int x3, .int x4, .int x5, .int x6] (some (.int R.1)) σ R.2 := by
  refine g_enter (by decide) (Nat.le_of_ble_eq_true rfl) ?_
  intro p e s m args below meth c A hA C hr hlocks Z ls hl
  have hl : lv_has ls 7 [(0, .ref (ad 0)), (1, .int x1), (2, .int x2), (3, .int x3), (4, .int x4), (5, .int x5), (6, .int x6)] := hl
  exact w_X10_may_0 C (g_RTi C.1.1 C.1.2.1 hr hlocks hA)  Z hl h
def r_X10_mesh : Room := { frames := 5, cells := 0, slots := 0, locals := 126 }
set_option maxRecDepth 20000 in
theorem w_X10_mesh_0 {p : Program} {l : Launch} {e : Env} {s : State} {m : MethodId} {args : Array Value} {below : List Frame} {meth : Method} {c : Code} {Q : State → Prop} {D : va_G} {kc : Nat → ClassId} {ad : Nat → Nat} {A : Nat → Prop} {adK adV : Nat → Nat} (C : Cx (eC adK adV) p s m args c cX10_mesh 6 RX10 D kc A) {R : Int64 × St} {x1 : Int32} {x2 : Int32} {x3 : Int32} {x4 : Int32} {x5 : Int32} {σ : St} (hR : RTl 0 0 p l e r_X10_mesh s m args below meth c cX10_mesh tC kc ad D A Q R.1 R.2) {H : Heap} {locs : List Loc} {ls : Array Slot} (Z : Dy tC kc ad D A s.heap σ H locs) (hl : lv_has ls 6 [(0, .ref (ad 0)), (1, .int x1), (2, .int x2), (3, .int x3), (4, .int x4), (5, .int x5)]) (h : f_X10_mesh x1 x2 x3 x4 x5 σ = some R) : W p l e r_X10_mesh s m args below meth c H locs 0 0 Q (F0 m 0 ls []) := by
  have hx := C.1.1
  have hb := C.1.2.1
  unfold f_X10_mesh at h
  refine lv_aload_n hx hb dX10_mesh_0 rfl (lv_at hl 0 rfl) ?_
  refine lv_iload_n hx hb dX10_mesh_1 rfl (lv_at hl 1 rfl) ?_
  refine lv_iload_n hx hb dX10_mesh_2 rfl (lv_at hl 2 rfl) ?_
  refine lv_iload_n hx hb dX10_mesh_3 rfl (lv_at hl 3 rfl) ?_
  refine lv_iload hx hb dX10_mesh_4 (lv_at hl 4 rfl) ?_
  refine lv_iload hx hb dX10_mesh_6 (lv_at hl 5 rfl) ?_
  refine g_callVi (eC_ok adK adV) C Z (k_X10_canAsk x1 x2 x3 x4 x5 σ) lk_X10_248 (by decide) rfl rfl hl (by decide) rfl (Nat.le_of_ble_eq_true rfl) (rest := []) rfl dX10_mesh_8 (fun H locs Z => ?_)
  refine lv_if_ne (tgt := 16) hx hb dX10_mesh_11 (by decide) (fun c11 => ?_) (fun c11 => ?_)
  · have h := im h c11
    refine lv_aload_n hx hb dX10_mesh_16 rfl (lv_at hl 0 rfl) ?_
    refine lv_iload_n hx hb dX10_mesh_17 rfl (lv_at hl 1 rfl) ?_
    refine lv_iload_n hx hb dX10_mesh_18 rfl (lv_at hl 2 rfl) ?_
    refine lv_iload_n hx hb dX10_mesh_19 rfl (lv_at hl 3 rfl) ?_
    refine lv_iload hx hb dX10_mesh_20 (lv_at hl 4 rfl) ?_
    refine lv_iload hx hb dX10_mesh_22 (lv_at hl 5 rfl) ?_
    obtain ⟨u3, hu3, h⟩ := ob h
    refine g_callVl (eC_ok adK adV) C Z (k_X10_meshFor hu3) lk_X10_257 (by decide) rfl rfl hl (by decide) rfl (Nat.le_of_ble_eq_true rfl) (rest := []) rfl dX10_mesh_24 (fun H locs Z => ?_)
    obtain rfl := Option.some.inj h
    exact hR _ _ _ _ Z dX10_mesh_27
  · have h := ip h c11
    refine lv_lconst (v := 0) hx hb dX10_mesh_14 (by decide) ?_
    obtain rfl := Option.some.inj h
    exact hR _ _ _ _ Z dX10_mesh_15
theorem k_X10_mesh {l : Launch} {kc : Nat → ClassId} {ad : Nat → Nat} {D : va_G} {adK adV : Nat → Nat} {x1 : Int32} {x2 : Int32} {x3 : Int32} {x4 : Int32} {x5 : Int32} {σ : St} {R : Int64 × St} (h : f_X10_mesh x1 x2 x3 x4 x5 σ = some R) : KC (eC adK adV) tC kc ad D l yX10_mesh (.code yX10_mesh cX10_mesh 6 (some .long)) r_X10_mesh [.ref (ad 0), .int x1, .int x2, .int x3, .int x4, .int x5] (some (.long R.1)) σ R.2 := by
  refine g_enter (by decide) (Nat.le_of_ble_eq_true rfl) ?_
  intro p e s m args below meth c A hA C hr hlocks Z ls hl
  have hl : lv_has ls 6 [(0, .ref (ad 0)), (1, .int x1), (2, .int x2), (3, .int x3), (4, .int x4), (5, .int x5)] := hl
  exact w_X10_mesh_0 C (g_RTl C.1.1 C.1.2.1 hr hlocks hA)  Z hl h
def r_X10_by : Room := { frames := 6, cells := 0, slots := 0, locals := 153 }
set_option maxRecDepth 20000 in
theorem w_X10_by_0 {p : Program} {l : Launch} {e : Env} {s : State} {m : MethodId} {args : Array Value} {below : List Frame} {meth : Method} {c : Code} {Q : State → Prop} {D : va_G} {kc : Nat → ClassId} {ad : Nat → Nat} {A : Nat → Prop} {adK adV : Nat → Nat} (C : Cx (eC adK adV) p s m args c cX10_by 7 RX10 D kc A) {R : Int32 × St} {x1 : Int32} {x2 : Int32} {x3 : Int32} {x4 : Int32} {x5 : Int32} {x6 : Int32} {σ : St} (hR : RTi 0 0 p l e r_X10_by s m args below meth c cX10_by tC kc ad D A Q .int R.1 R.2) {H : Heap} {locs : List Loc} {ls : Array Slot} (Z : Dy tC kc ad D A s.heap σ H locs) (hl : lv_has ls 7 [(0, .ref (ad 0)), (1, .int x1), (2, .int x2), (3, .int x3), (4, .int x4), (5, .int x5), (6, .int x6)]) (h : f_X10_by x1 x2 x3 x4 x5 x6 σ = some R) : W p l e r_X10_by s m args below meth c H locs 0 0 Q (F0 m 0 ls []) := by
  have hx := C.1.1
  have hb := C.1.2.1
  unfold f_X10_by at h
  refine lv_aload_n hx hb dX10_by_0 rfl (lv_at hl 0 rfl) ?_
  refine lv_iload_n hx hb dX10_by_1 rfl (lv_at hl 1 rfl) ?_
  refine lv_iload_n hx hb dX10_by_2 rfl (lv_at hl 3 rfl) ?_
  refine lv_iload hx hb dX10_by_3 (lv_at hl 4 rfl) ?_
  refine lv_iload hx hb dX10_by_5 (lv_at hl 5 rfl) ?_
  refine lv_iload hx hb dX10_by_7 (lv_at hl 6 rfl) ?_
  refine g_callVi (eC_ok adK adV) C Z (k_X10_canAsk x1 x3 x4 x5 x6 σ) lk_X10_248 (by decide) rfl rfl hl (by decide) rfl (Nat.le_of_ble_eq_true rfl) (rest := []) rfl dX10_by_9 (fun H locs Z => ?_)
  refine lv_if_eq (tgt := 24) hx hb dX10_by_12 (by decide) (fun c12 => ?_) (fun c12 => ?_)
  · have h := ip h c12
    refine lv_iconst (v := (-1)) hx hb dX10_by_24 (by decide) ?_
    obtain rfl := Option.some.inj h
    exact hR _ _ _ _ _ Z dX10_by_25 rfl
  · have h := im h c12
    refine lv_iload_n hx hb dX10_by_15 rfl (lv_at hl 2 rfl) ?_
    refine lv_iconst (v := 0) hx hb dX10_by_16 (by decide) ?_
    refine lv_iconst (v := 4) hx hb dX10_by_17 (by decide) ?_
    refine g_callSi (eC_ok adK adV) C Z (k_X10_lies x2 0 4 σ) lk_X10_99 hl (by decide) rfl (Nat.le_of_ble_eq_true rfl) (rest := []) rfl dX10_by_18 (fun H locs Z => ?_)
    refine lv_if_ne (tgt := 26) hx hb dX10_by_21 (by decide) (fun c21 => ?_) (fun c21 => ?_)
    · have h := im h c21
      refine lv_aload_n hx hb dX10_by_26 rfl (lv_at hl 0 rfl) ?_
      refine lv_iload_n hx hb dX10_by_27 rfl (lv_at hl 1 rfl) ?_
      refine lv_iload_n hx hb dX10_by_28 rfl (lv_at hl 2 rfl) ?_
      refine lv_iload_n hx hb dX10_by_29 rfl (lv_at hl 3 rfl) ?_
      refine lv_iload hx hb dX10_by_30 (lv_at hl 4 rfl) ?_
      refine lv_iload hx hb dX10_by_32 (lv_at hl 5 rfl) ?_
      refine lv_iload hx hb dX10_by_34 (lv_at hl 6 rfl) ?_
      obtain ⟨u3, hu3, h⟩ := ob h
      refine g_callVi (eC_ok adK adV) C Z (k_X10_findMay hu3) lk_X10_251 (by decide) rfl rfl hl (by decide) rfl (Nat.le_of_ble_eq_true rfl) (rest := []) rfl dX10_by_36 (fun H locs Z => ?_)
      obtain rfl := Option.some.inj h
      exact hR _ _ _ _ _ Z dX10_by_39 rfl
    · have h := ip h c21
      refine lv_iconst (v := (-1)) hx hb dX10_by_24 (by decide) ?_
      obtain rfl := Option.some.inj h
      exact hR _ _ _ _ _ Z dX10_by_25 rfl
theorem k_X10_by {l : Launch} {kc : Nat → ClassId} {ad : Nat → Nat} {D : va_G} {adK adV : Nat → Nat} {x1 : Int32} {x2 : Int32} {x3 : Int32} {x4 : Int32} {x5 : Int32} {x6 : Int32} {σ : St} {R : Int32 × St} (h : f_X10_by x1 x2 x3 x4 x5 x6 σ = some R) : KC (eC adK adV) tC kc ad D l yX10_by (.code yX10_by cX10_by 7 (some .int)) r_X10_by [.ref (ad 0), .int x1, .int x2, .int x3, .int x4, .int x5, .int x6] (some (.int R.1)) σ R.2 := by
  refine g_enter (by decide) (Nat.le_of_ble_eq_true rfl) ?_
  intro p e s m args below meth c A hA C hr hlocks Z ls hl
  have hl : lv_has ls 7 [(0, .ref (ad 0)), (1, .int x1), (2, .int x2), (3, .int x3), (4, .int x4), (5, .int x5), (6, .int x6)] := hl
  exact w_X10_by_0 C (g_RTi C.1.1 C.1.2.1 hr hlocks hA)  Z hl h
def r_X10_act : Room := { frames := 2, cells := 0, slots := 0, locals := 43 }
set_option maxRecDepth 20000 in
theorem w_X10_act_0 {p : Program} {l : Launch} {e : Env} {s : State} {m : MethodId} {args : Array Value} {below : List Frame} {meth : Method} {c : Code} {Q : State → Prop} {D : va_G} {kc : Nat → ClassId} {ad : Nat → Nat} {A : Nat → Prop} {adK adV : Nat → Nat} (C : Cx (eC adK adV) p s m args c cX10_act 7 RX10 D kc A) {R : Int32 × St} {x1 : Int32} {x2 : Int32} {x3 : Int32} {x4 : Int32} {x5 : Int32} {σ : St} (hR : RTi 0 0 p l e r_X10_act s m args below meth c cX10_act tC kc ad D A Q .int R.1 R.2) {H : Heap} {locs : List Loc} {ls : Array Slot} (Z : Dy tC kc ad D A s.heap σ H locs) (hl : lv_has ls 7 [(0, .ref (ad 0)), (1, .int x1), (2, .int x2), (3, .int x3), (4, .int x4), (5, .int x5)]) (h : f_X10_act x1 x2 x3 x4 x5 σ = some R) : W p l e r_X10_act s m args below meth c H locs 0 0 Q (F0 m 0 ls []) := by
  have hx := C.1.1
  have hb := C.1.2.1
  unfold f_X10_act at h
  refine lv_aload_n hx hb dX10_act_0 rfl (lv_at hl 0 rfl) ?_
  refine rg_X10_61 C Z dX10_act_1 ?_
  refine lv_sipush (v := 150) hx hb dX10_act_4 (by decide) ?_
  refine lv_icmp_ge (tgt := 52) hx hb dX10_act_7 (by decide) (fun c7 => ?_) (fun c7 => ?_)
  · have h := ip h c7
    refine lv_iconst (v := (-1)) hx hb dX10_act_52 (by decide) ?_
    obtain rfl := Option.some.inj h
    exact hR _ _ _ _ _ Z dX10_act_53 rfl
  · have h := im h c7
    refine lv_aload_n hx hb dX10_act_10 rfl (lv_at hl 0 rfl) ?_
    refine rg_X10_23 C Z dX10_act_11 ?_
    refine lv_iload_n hx hb dX10_act_14 rfl (lv_at hl 1 rfl) ?_
    refine g_callVi (eC_ok adK adV) C Z (k_X7_has x1 σ) lk_X10_119 (by decide) rfl rfl hl (by decide) rfl (Nat.le_of_ble_eq_true rfl) (rest := []) rfl dX10_act_15 (fun H locs Z => ?_)
    refine lv_if_eq (tgt := 52) hx hb dX10_act_18 (by decide) (fun c18 => ?_) (fun c18 => ?_)
    · have h := ip h c18
      refine lv_iconst (v := (-1)) hx hb dX10_act_52 (by decide) ?_
      obtain rfl := Option.some.inj h
      exact hR _ _ _ _ _ Z dX10_act_53 rfl
    · have h := im h c18
      refine lv_iload_n hx hb dX10_act_21 rfl (lv_at hl 2 rfl) ?_
      refine lv_iconst (v := 0) hx hb dX10_act_22 (by decide) ?_
      refine lv_iconst (v := 4) hx hb dX10_act_23 (by decide) ?_
      refine g_callSi (eC_ok adK adV) C Z (k_X10_lies x2 0 4 σ) lk_X10_99 hl (by decide) rfl (Nat.le_of_ble_eq_true rfl) (rest := []) rfl dX10_act_24 (fun H locs Z => ?_)
      refine lv_if_eq (tgt := 52) hx hb dX10_act_27 (by decide) (fun c27 => ?_) (fun c27 => ?_)
      · have h := ip h c27
        refine lv_iconst (v := (-1)) hx hb dX10_act_52 (by decide) ?_
        obtain rfl := Option.some.inj h
        exact hR _ _ _ _ _ Z dX10_act_53 rfl
      · have h := im h c27
        refine lv_iload_n hx hb dX10_act_30 rfl (lv_at hl 3 rfl) ?_
        refine lv_iload hx hb dX10_act_31 (lv_at hl 4 rfl) ?_
        refine g_callSi (eC_ok adK adV) C Z (k_X6_isCell x3 x4 σ) lk_X10_103 hl (by decide) rfl (Nat.le_of_ble_eq_true rfl) (rest := []) rfl dX10_act_33 (fun H locs Z => ?_)
        refine lv_if_eq (tgt := 52) hx hb dX10_act_36 (by decide) (fun c36 => ?_) (fun c36 => ?_)
        · have h := ip h c36
          refine lv_iconst (v := (-1)) hx hb dX10_act_52 (by decide) ?_
          obtain rfl := Option.some.inj h
          exact hR _ _ _ _ _ Z dX10_act_53 rfl
        · have h := im h c36
          refine lv_iload hx hb dX10_act_39 (lv_at hl 5 rfl) ?_
          refine lv_iconst (v := 0) hx hb dX10_act_41 (by decide) ?_
          refine lv_aload_n hx hb dX10_act_42 rfl (lv_at hl 0 rfl) ?_
          refine rg_X10_7 C Z dX10_act_43 ?_
          refine g_callSi (eC_ok adK adV) C Z (k_X10_lies x5 0 (gF σ 0) σ) lk_X10_99 hl (by decide) rfl (Nat.le_of_ble_eq_true rfl) (rest := []) rfl dX10_act_46 (fun H locs Z => ?_)
          refine lv_if_ne (tgt := 54) hx hb dX10_act_49 (by decide) (fun c49 => ?_) (fun c49 => ?_)
          · have h := im h c49
            refine lv_aload_n hx hb dX10_act_54 rfl (lv_at hl 0 rfl) ?_
            refine rg_X10_61 C Z dX10_act_55 ?_
            refine lv_iconst (v := 5) hx hb dX10_act_58 (by decide) ?_
            refine lv_imul hx hb dX10_act_59 ?_
            obtain ⟨v15, ev15, h⟩ := lb h
            refine tn_i ev15 ?_
            refine lv_istore (lv' := [(6, .int v15), (0, .ref (ad 0)), (1, .int x1), (2, .int x2), (3, .int x3), (4, .int x4), (5, .int x5)]) hx hb dX10_act_60 hl (by decide) rfl (fun ls hl => ?_)
            refine lv_aload_n hx hb dX10_act_62 rfl (lv_at hl 1 rfl) ?_
            refine rg_X10_57 C Z dX10_act_63 ?_
            refine lv_iload hx hb dX10_act_66 (lv_at hl 0 rfl) ?_
            refine lv_iload_n hx hb dX10_act_68 rfl (lv_at hl 2 rfl) ?_
            obtain ⟨σ16, hσ16, h⟩ := ob h
            refine g_iast C Z iaC13 hσ16 dX10_act_69 (fun H locs Z => ?_)
            refine lv_aload_n hx hb dX10_act_70 rfl (lv_at hl 1 rfl) ?_
            refine rg_X10_57 C Z dX10_act_71 ?_
            refine lv_iload hx hb dX10_act_74 (lv_at hl 0 rfl) ?_
            refine lv_iconst (v := 1) hx hb dX10_act_76 (by decide) ?_
            refine lv_iadd hx hb dX10_act_77 ?_
            refine lv_iload_n hx hb dX10_act_78 rfl (lv_at hl 3 rfl) ?_
            obtain ⟨σ17, hσ17, h⟩ := ob h
            refine g_iast C Z iaC13 hσ17 dX10_act_79 (fun H locs Z => ?_)
            refine lv_aload_n hx hb dX10_act_80 rfl (lv_at hl 1 rfl) ?_
            refine rg_X10_57 C Z dX10_act_81 ?_
            refine lv_iload hx hb dX10_act_84 (lv_at hl 0 rfl) ?_
            refine lv_iconst (v := 2) hx hb dX10_act_86 (by decide) ?_
            refine lv_iadd hx hb dX10_act_87 ?_
            refine lv_iload_n hx hb dX10_act_88 rfl (lv_at hl 4 rfl) ?_
            obtain ⟨σ18, hσ18, h⟩ := ob h
            refine g_iast C Z iaC13 hσ18 dX10_act_89 (fun H locs Z => ?_)
            refine lv_aload_n hx hb dX10_act_90 rfl (lv_at hl 1 rfl) ?_
            refine rg_X10_57 C Z dX10_act_91 ?_
            refine lv_iload hx hb dX10_act_94 (lv_at hl 0 rfl) ?_
            refine lv_iconst (v := 3) hx hb dX10_act_96 (by decide) ?_
            refine lv_iadd hx hb dX10_act_97 ?_
            refine lv_iload hx hb dX10_act_98 (lv_at hl 5 rfl) ?_
            obtain ⟨σ19, hσ19, h⟩ := ob h
            refine g_iast C Z iaC13 hσ19 dX10_act_100 (fun H locs Z => ?_)
            refine lv_aload_n hx hb dX10_act_101 rfl (lv_at hl 1 rfl) ?_
            refine rg_X10_57 C Z dX10_act_102 ?_
            refine lv_iload hx hb dX10_act_105 (lv_at hl 0 rfl) ?_
            refine lv_iconst (v := 4) hx hb dX10_act_107 (by decide) ?_
            refine lv_iadd hx hb dX10_act_108 ?_
            refine lv_iload hx hb dX10_act_109 (lv_at hl 6 rfl) ?_
            obtain ⟨σ20, hσ20, h⟩ := ob h
            refine g_iast C Z iaC13 hσ20 dX10_act_111 (fun H locs Z => ?_)
            refine lv_aload_n hx hb dX10_act_112 rfl (lv_at hl 1 rfl) ?_
            refine lv_dup hx hb dX10_act_113 rfl ?_
            refine rg_X10_61 C Z dX10_act_114 ?_
            refine lv_iconst (v := 1) hx hb dX10_act_117 (by decide) ?_
            refine lv_iadd hx hb dX10_act_118 ?_
            obtain ⟨σ21, eσ21, h⟩ := lb h
            refine rp_X10_61 C Z eσ21 dX10_act_119 (fun H locs Z => ?_)
            refine lv_aload_n hx hb dX10_act_122 rfl (lv_at hl 1 rfl) ?_
            refine rg_X10_61 C Z dX10_act_123 ?_
            refine lv_iconst (v := 1) hx hb dX10_act_126 (by decide) ?_
            refine lv_isub hx hb dX10_act_127 ?_
            obtain rfl := Option.some.inj h
            exact hR _ _ _ _ _ Z dX10_act_128 rfl
          · have h := ip h c49
            refine lv_iconst (v := (-1)) hx hb dX10_act_52 (by decide) ?_
            obtain rfl := Option.some.inj h
            exact hR _ _ _ _ _ Z dX10_act_53 rfl
theorem k_X10_act {l : Launch} {kc : Nat → ClassId} {ad : Nat → Nat} {D : va_G} {adK adV : Nat → Nat} {x1 : Int32} {x2 : Int32} {x3 : Int32} {x4 : Int32} {x5 : Int32} {σ : St} {R : Int32 × St} (h : f_X10_act x1 x2 x3 x4 x5 σ = some R) : KC (eC adK adV) tC kc ad D l yX10_act (.code yX10_act cX10_act 7 (some .int)) r_X10_act [.ref (ad 0), .int x1, .int x2, .int x3, .int x4, .int x5] (some (.int R.1)) σ R.2 := by
  refine g_enter (by decide) (Nat.le_of_ble_eq_true rfl) ?_
  intro p e s m args below meth c A hA C hr hlocks Z ls hl
  have hl : lv_has ls 7 [(0, .ref (ad 0)), (1, .int x1), (2, .int x2), (3, .int x3), (4, .int x4), (5, .int x5)] := hl
  exact w_X10_act_0 C (g_RTi C.1.1 C.1.2.1 hr hlocks hA)  Z hl h
def r_X10_isKept : Room := { frames := 6, cells := 0, slots := 0, locals := 153 }
set_option maxRecDepth 20000 in
theorem w_X10_isKept_143 {p : Program} {l : Launch} {e : Env} {s : State} {m : MethodId} {args : Array Value} {below : List Frame} {meth : Method} {c : Code} {Q : State → Prop} {D : va_G} {kc : Nat → ClassId} {ad : Nat → Nat} {A : Nat → Prop} {adK adV : Nat → Nat} (C : Cx (eC adK adV) p s m args c cX10_isKept 9 RX10 D kc A) {R : Int32 × St} {σ : St} (hR : RTi 0 0 p l e r_X10_isKept s m args below meth c cX10_isKept tC kc ad D A Q .boolean R.1 R.2) {H : Heap} {locs : List Loc} {ls : Array Slot} (Z : Dy tC kc ad D A s.heap σ H locs) (hl : lv_has ls 9 []) (h : f_X10_isKept_143 σ = some R) : W p l e r_X10_isKept s m args below meth c H locs 0 0 Q (F0 m 143 ls []) := by
  have hx := C.1.1
  have hb := C.1.2.1
  unfold f_X10_isKept_143 at h
  refine lv_iconst (v := 1) hx hb dX10_isKept_143 (by decide) ?_
  refine lv_goto (tgt := 148) hx hb dX10_isKept_144 (by decide) ?_
  obtain rfl := Option.some.inj h
  exact hR _ _ _ _ _ Z dX10_isKept_148 rfl
set_option maxRecDepth 20000 in
theorem w_X10_isKept_0 {p : Program} {l : Launch} {e : Env} {s : State} {m : MethodId} {args : Array Value} {below : List Frame} {meth : Method} {c : Code} {Q : State → Prop} {D : va_G} {kc : Nat → ClassId} {ad : Nat → Nat} {A : Nat → Prop} {adK adV : Nat → Nat} (C : Cx (eC adK adV) p s m args c cX10_isKept 9 RX10 D kc A) {R : Int32 × St} {x1 : Int32} {x2 : Int32} {σ : St} (hR : RTi 0 0 p l e r_X10_isKept s m args below meth c cX10_isKept tC kc ad D A Q .boolean R.1 R.2) {H : Heap} {locs : List Loc} {ls : Array Slot} (Z : Dy tC kc ad D A s.heap σ H locs) (hl : lv_has ls 9 [(0, .ref (ad 0)), (1, .int x1), (2, .int x2)]) (h : f_X10_isKept x1 x2 σ = some R) : W p l e r_X10_isKept s m args below meth c H locs 0 0 Q (F0 m 0 ls []) := by
  have hx := C.1.1
  have hb := C.1.2.1
  unfold f_X10_isKept at h
  refine lv_iload_n hx hb dX10_isKept_0 rfl (lv_at hl 1 rfl) ?_
  refine lv_iconst (v := 5) hx hb dX10_isKept_1 (by decide) ?_
  refine lv_imul hx hb dX10_isKept_2 ?_
  obtain ⟨v21, ev21, h⟩ := lb h
  refine tn_i ev21 ?_
  refine lv_istore_n (lv' := [(3, .int v21), (0, .ref (ad 0)), (1, .int x1), (2, .int x2)]) hx hb dX10_isKept_3 rfl hl (by decide) rfl (fun ls hl => ?_)
  refine lv_iload_n hx hb dX10_isKept_4 rfl (lv_at hl 0 rfl) ?_
  refine lv_iconst (v := 0) hx hb dX10_isKept_5 (by decide) ?_
  refine lv_aload_n hx hb dX10_isKept_6 rfl (lv_at hl 1 rfl) ?_
  refine rg_X10_57 C Z dX10_isKept_7 ?_
  refine g_len C Z iaC13 (by decide) (v := 750) rfl dX10_isKept_10 ?_
  refine lv_iconst (v := 5) hx hb dX10_isKept_11 (by decide) ?_
  refine lv_isub hx hb dX10_isKept_12 ?_
  refine g_callSi (eC_ok adK adV) C Z (k_X10_lies v21 0 (750 - 5) σ) lk_X10_99 hl (by decide) rfl (Nat.le_of_ble_eq_true rfl) (rest := []) rfl dX10_isKept_13 (fun H locs Z => ?_)
  refine lv_if_ne (tgt := 21) hx hb dX10_isKept_16 (by decide) (fun c16 => ?_) (fun c16 => ?_)
  · have h := im h c16
    refine lv_aload_n hx hb dX10_isKept_21 rfl (lv_at hl 1 rfl) ?_
    refine rg_X10_57 C Z dX10_isKept_22 ?_
    refine lv_iload_n hx hb dX10_isKept_25 rfl (lv_at hl 0 rfl) ?_
    obtain ⟨v22, hv22, h⟩ := ob h
    refine g_iald C Z iaC13 hv22 dX10_isKept_26 ?_
    refine lv_istore (lv' := [(4, .int v22), (3, .int v21), (0, .ref (ad 0)), (1, .int x1), (2, .int x2)]) hx hb dX10_isKept_27 hl (by decide) rfl (fun ls hl => ?_)
    refine lv_aload_n hx hb dX10_isKept_29 rfl (lv_at hl 2 rfl) ?_
    refine rg_X10_57 C Z dX10_isKept_30 ?_
    refine lv_iload_n hx hb dX10_isKept_33 rfl (lv_at hl 1 rfl) ?_
    refine lv_iconst (v := 1) hx hb dX10_isKept_34 (by decide) ?_
    refine lv_iadd hx hb dX10_isKept_35 ?_
    obtain ⟨v23, hv23, h⟩ := ob h
    refine g_iald C Z iaC13 hv23 dX10_isKept_36 ?_
    refine lv_istore (lv' := [(5, .int v23), (4, .int v22), (3, .int v21), (0, .ref (ad 0)), (1, .int x1), (2, .int x2)]) hx hb dX10_isKept_37 hl (by decide) rfl (fun ls hl => ?_)
    refine lv_aload_n hx hb dX10_isKept_39 rfl (lv_at hl 3 rfl) ?_
    refine rg_X10_57 C Z dX10_isKept_40 ?_
    refine lv_iload_n hx hb dX10_isKept_43 rfl (lv_at hl 2 rfl) ?_
    refine lv_iconst (v := 2) hx hb dX10_isKept_44 (by decide) ?_
    refine lv_iadd hx hb dX10_isKept_45 ?_
    obtain ⟨v24, hv24, h⟩ := ob h
    refine g_iald C Z iaC13 hv24 dX10_isKept_46 ?_
    refine lv_istore (lv' := [(6, .int v24), (5, .int v23), (4, .int v22), (3, .int v21), (0, .ref (ad 0)), (1, .int x1), (2, .int x2)]) hx hb dX10_isKept_47 hl (by decide) rfl (fun ls hl => ?_)
    refine lv_aload_n hx hb dX10_isKept_49 rfl (lv_at hl 4 rfl) ?_
    refine rg_X10_57 C Z dX10_isKept_50 ?_
    refine lv_iload_n hx hb dX10_isKept_53 rfl (lv_at hl 3 rfl) ?_
    refine lv_iconst (v := 3) hx hb dX10_isKept_54 (by decide) ?_
    refine lv_iadd hx hb dX10_isKept_55 ?_
    obtain ⟨v25, hv25, h⟩ := ob h
    refine g_iald C Z iaC13 hv25 dX10_isKept_56 ?_
    refine lv_istore (lv' := [(7, .int v25), (6, .int v24), (5, .int v23), (4, .int v22), (3, .int v21), (0, .ref (ad 0)), (1, .int x1), (2, .int x2)]) hx hb dX10_isKept_57 hl (by decide) rfl (fun ls hl => ?_)
    refine lv_aload_n hx hb dX10_isKept_59 rfl (lv_at hl 5 rfl) ?_
    refine rg_X10_57 C Z dX10_isKept_60 ?_
    refine lv_iload_n hx hb dX10_isKept_63 rfl (lv_at hl 4 rfl) ?_
    refine lv_iconst (v := 4) hx hb dX10_isKept_64 (by decide) ?_
    refine lv_iadd hx hb dX10_isKept_65 ?_
    obtain ⟨v26, hv26, h⟩ := ob h
    refine g_iald C Z iaC13 hv26 dX10_isKept_66 ?_
    refine lv_istore (lv' := [(8, .int v26), (7, .int v25), (6, .int v24), (5, .int v23), (4, .int v22), (3, .int v21), (0, .ref (ad 0)), (1, .int x1), (2, .int x2)]) hx hb dX10_isKept_67 hl (by decide) rfl (fun ls hl => ?_)
    refine lv_aload_n hx hb dX10_isKept_69 rfl (lv_at hl 6 rfl) ?_
    refine rg_X10_23 C Z dX10_isKept_70 ?_
    refine lv_iload hx hb dX10_isKept_73 (lv_at hl 4 rfl) ?_
    refine g_callVi (eC_ok adK adV) C Z (k_X7_has v22 σ) lk_X10_119 (by decide) rfl rfl hl (by decide) rfl (Nat.le_of_ble_eq_true rfl) (rest := []) rfl dX10_isKept_75 (fun H locs Z => ?_)
    refine lv_if_eq (tgt := 108) hx hb dX10_isKept_78 (by decide) (fun c78 => ?_) (fun c78 => ?_)
    · have h := ip h c78
      refine lv_iconst (v := 0) hx hb dX10_isKept_108 (by decide) ?_
      obtain rfl := Option.some.inj h
      exact hR _ _ _ _ _ Z dX10_isKept_109 rfl
    · have h := im h c78
      refine lv_aload_n hx hb dX10_isKept_81 rfl (lv_at hl 6 rfl) ?_
      refine rg_X10_37 C Z dX10_isKept_82 ?_
      refine lv_aload_n hx hb dX10_isKept_85 rfl (lv_at hl 6 rfl) ?_
      refine lv_iload_n hx hb dX10_isKept_86 rfl (lv_at hl 8 rfl) ?_
      refine lv_iload hx hb dX10_isKept_87 (lv_at hl 3 rfl) ?_
      refine lv_iload hx hb dX10_isKept_89 (lv_at hl 4 rfl) ?_
      refine lv_iload hx hb dX10_isKept_91 (lv_at hl 2 rfl) ?_
      refine lv_iload hx hb dX10_isKept_93 (lv_at hl 1 rfl) ?_
      refine lv_iload hx hb dX10_isKept_95 (lv_at hl 0 rfl) ?_
      obtain ⟨u27, hu27, h⟩ := ob h
      refine g_callVi (eC_ok adK adV) C Z (k_X10_findMay hu27) lk_X10_251 (by decide) rfl rfl hl (by decide) rfl (Nat.le_of_ble_eq_true rfl) (rest := [.ref (ad 4)]) rfl dX10_isKept_97 (fun H locs Z => ?_)
      refine lv_iload hx hb dX10_isKept_100 (lv_at hl 3 rfl) ?_
      obtain ⟨v28, hv28, h⟩ := ob h
      refine g_callVi (eC_ok adK adV) C Z (k_X2_allows hv28) lk_X10_254 (by decide) rfl rfl hl (by decide) rfl (Nat.le_of_ble_eq_true rfl) (rest := []) rfl dX10_isKept_102 (fun H locs Z => ?_)
      refine lv_if_ne (tgt := 110) hx hb dX10_isKept_105 (by decide) (fun c105 => ?_) (fun c105 => ?_)
      · have h := im h c105
        refine lv_iload hx hb dX10_isKept_110 (lv_at hl 3 rfl) ?_
        refine lv_if_ne (tgt := 143) hx hb dX10_isKept_112 (by decide) (fun c112 => ?_) (fun c112 => ?_)
        · have h := im h c112
          exact w_X10_isKept_143 C hR Z (lv_sub hl [] rfl) h
        · have h := ip h c112
          refine lv_aload_n hx hb dX10_isKept_115 rfl (lv_at hl 6 rfl) ?_
          refine rg_X10_23 C Z dX10_isKept_116 ?_
          refine rg_X10_241 C Z dX10_isKept_119 ?_
          refine lv_iload hx hb dX10_isKept_122 (lv_at hl 4 rfl) ?_
          obtain ⟨v29, hv29, h⟩ := ob h
          refine g_iald C Z iaC21 hv29 dX10_isKept_124 ?_
          refine lv_i2l (v := v29.toInt64) hx hb dX10_isKept_125 rfl ?_
          refine lv_aload_n hx hb dX10_isKept_126 rfl (lv_at hl 6 rfl) ?_
          refine lv_iload_n hx hb dX10_isKept_127 rfl (lv_at hl 8 rfl) ?_
          refine lv_iload hx hb dX10_isKept_128 (lv_at hl 4 rfl) ?_
          refine lv_iload hx hb dX10_isKept_130 (lv_at hl 2 rfl) ?_
          refine lv_iload hx hb dX10_isKept_132 (lv_at hl 1 rfl) ?_
          refine lv_iload hx hb dX10_isKept_134 (lv_at hl 0 rfl) ?_
          obtain ⟨u30, hu30, h⟩ := ob h
          refine g_callVl (eC_ok adK adV) C Z (k_X10_meshFor hu30) lk_X10_257 (by decide) rfl rfl hl (by decide) rfl (Nat.le_of_ble_eq_true rfl) (rest := [.long v29.toInt64]) rfl dX10_isKept_136 (fun H locs Z => ?_)
          refine g_llt (tgt := 147) hx hb dX10_isKept_139 dX10_isKept_140 (by decide) (fun c140 => ?_) (fun c140 => ?_)
          · have h := ip h c140
            refine lv_iconst (v := 0) hx hb dX10_isKept_147 (by decide) ?_
            obtain rfl := Option.some.inj h
            exact hR _ _ _ _ _ Z dX10_isKept_148 rfl
          · have h := im h c140
            exact w_X10_isKept_143 C hR Z (lv_sub hl [] rfl) h
      · have h := ip h c105
        refine lv_iconst (v := 0) hx hb dX10_isKept_108 (by decide) ?_
        obtain rfl := Option.some.inj h
        exact hR _ _ _ _ _ Z dX10_isKept_109 rfl
  · have h := ip h c16
    refine lv_iconst (v := 0) hx hb dX10_isKept_19 (by decide) ?_
    obtain rfl := Option.some.inj h
    exact hR _ _ _ _ _ Z dX10_isKept_20 rfl
theorem k_X10_isKept {l : Launch} {kc : Nat → ClassId} {ad : Nat → Nat} {D : va_G} {adK adV : Nat → Nat} {x1 : Int32} {x2 : Int32} {σ : St} {R : Int32 × St} (h : f_X10_isKept x1 x2 σ = some R) : KC (eC adK adV) tC kc ad D l yX10_isKept (.code yX10_isKept cX10_isKept 9 (some .boolean)) r_X10_isKept [.ref (ad 0), .int x1, .int x2] (some (.int R.1)) σ R.2 := by
  refine g_enter (by decide) (Nat.le_of_ble_eq_true rfl) ?_
  intro p e s m args below meth c A hA C hr hlocks Z ls hl
  have hl : lv_has ls 9 [(0, .ref (ad 0)), (1, .int x1), (2, .int x2)] := hl
  exact w_X10_isKept_0 C (g_RTi C.1.1 C.1.2.1 hr hlocks hA)  Z hl h
def r_X10_kept : Room := { frames := 7, cells := 0, slots := 0, locals := 181 }
set_option maxRecDepth 20000 in
theorem w_X10_kept_0 {p : Program} {l : Launch} {e : Env} {s : State} {m : MethodId} {args : Array Value} {below : List Frame} {meth : Method} {c : Code} {Q : State → Prop} {D : va_G} {kc : Nat → ClassId} {ad : Nat → Nat} {A : Nat → Prop} {adK adV : Nat → Nat} (C : Cx (eC adK adV) p s m args c cX10_kept 3 RX10 D kc A) {R : Int32 × St} {x1 : Int32} {x2 : Int32} {σ : St} (hR : RTi 0 0 p l e r_X10_kept s m args below meth c cX10_kept tC kc ad D A Q .int R.1 R.2) {H : Heap} {locs : List Loc} {ls : Array Slot} (Z : Dy tC kc ad D A s.heap σ H locs) (hl : lv_has ls 3 [(0, .ref (ad 0)), (1, .int x1), (2, .int x2)]) (h : f_X10_kept x1 x2 σ = some R) : W p l e r_X10_kept s m args below meth c H locs 0 0 Q (F0 m 0 ls []) := by
  have hx := C.1.1
  have hb := C.1.2.1
  unfold f_X10_kept at h
  refine lv_iload_n hx hb dX10_kept_0 rfl (lv_at hl 1 rfl) ?_
  refine lv_iconst (v := 0) hx hb dX10_kept_1 (by decide) ?_
  refine lv_aload_n hx hb dX10_kept_2 rfl (lv_at hl 0 rfl) ?_
  refine rg_X10_61 C Z dX10_kept_3 ?_
  refine lv_iconst (v := 1) hx hb dX10_kept_6 (by decide) ?_
  refine lv_isub hx hb dX10_kept_7 ?_
  refine g_callSi (eC_ok adK adV) C Z (k_X10_lies x1 0 ((gF σ 9) - 1) σ) lk_X10_99 hl (by decide) rfl (Nat.le_of_ble_eq_true rfl) (rest := []) rfl dX10_kept_8 (fun H locs Z => ?_)
  refine lv_if_eq (tgt := 21) hx hb dX10_kept_11 (by decide) (fun c11 => ?_) (fun c11 => ?_)
  · have h := ip h c11
    refine lv_iconst (v := (-1)) hx hb dX10_kept_21 (by decide) ?_
    obtain rfl := Option.some.inj h
    exact hR _ _ _ _ _ Z dX10_kept_22 rfl
  · have h := im h c11
    refine lv_iload_n hx hb dX10_kept_14 rfl (lv_at hl 2 rfl) ?_
    refine g_callSi (eC_ok adK adV) C Z (k_X10_isAuthor x2 σ) lk_X10_218 hl (by decide) rfl (Nat.le_of_ble_eq_true rfl) (rest := []) rfl dX10_kept_15 (fun H locs Z => ?_)
    refine lv_if_ne (tgt := 23) hx hb dX10_kept_18 (by decide) (fun c18 => ?_) (fun c18 => ?_)
    · have h := im h c18
      refine lv_aload_n hx hb dX10_kept_23 rfl (lv_at hl 0 rfl) ?_
      refine lv_iload_n hx hb dX10_kept_24 rfl (lv_at hl 1 rfl) ?_
      refine lv_iload_n hx hb dX10_kept_25 rfl (lv_at hl 2 rfl) ?_
      obtain ⟨u3, hu3, h⟩ := ob h
      refine g_callVi (eC_ok adK adV) C Z (k_X10_isKept hu3) lk_X10_261 (by decide) rfl rfl hl (by decide) rfl (Nat.le_of_ble_eq_true rfl) (rest := []) rfl dX10_kept_26 (fun H locs Z => ?_)
      obtain ⟨v4, ev4, h⟩ := lb h
      have hj : W p l e r_X10_kept s m args below meth c H locs 0 0 Q (F0 m 37 ls [.int v4]) := by
        obtain rfl := Option.some.inj h
        exact hR _ _ _ _ _ Z dX10_kept_37 rfl
      refine lv_if_eq (tgt := 36) hx hb dX10_kept_29 (by decide) (fun c29 => ?_) (fun c29 => ?_)
      · rw [if_pos c29] at ev4
        refine lv_iconst (v := 0) hx hb dX10_kept_36 (by decide) ?_
        exact tn_i ev4 hj
      · rw [if_neg c29] at ev4
        refine lv_iconst (v := 1) hx hb dX10_kept_32 (by decide) ?_
        refine lv_goto (tgt := 37) hx hb dX10_kept_33 (by decide) ?_
        exact tn_i ev4 hj
    · have h := ip h c18
      refine lv_iconst (v := (-1)) hx hb dX10_kept_21 (by decide) ?_
      obtain rfl := Option.some.inj h
      exact hR _ _ _ _ _ Z dX10_kept_22 rfl
theorem k_X10_kept {l : Launch} {kc : Nat → ClassId} {ad : Nat → Nat} {D : va_G} {adK adV : Nat → Nat} {x1 : Int32} {x2 : Int32} {σ : St} {R : Int32 × St} (h : f_X10_kept x1 x2 σ = some R) : KC (eC adK adV) tC kc ad D l yX10_kept (.code yX10_kept cX10_kept 3 (some .int)) r_X10_kept [.ref (ad 0), .int x1, .int x2] (some (.int R.1)) σ R.2 := by
  refine g_enter (by decide) (Nat.le_of_ble_eq_true rfl) ?_
  intro p e s m args below meth c A hA C hr hlocks Z ls hl
  have hl : lv_has ls 3 [(0, .ref (ad 0)), (1, .int x1), (2, .int x2)] := hl
  exact w_X10_kept_0 C (g_RTi C.1.1 C.1.2.1 hr hlocks hA)  Z hl h
def r_X10_broken : Room := { frames := 7, cells := 0, slots := 0, locals := 181 }
set_option maxRecDepth 20000 in
theorem w_X10_broken_80 {p : Program} {l : Launch} {e : Env} {s : State} {m : MethodId} {args : Array Value} {below : List Frame} {meth : Method} {c : Code} {Q : State → Prop} {D : va_G} {kc : Nat → ClassId} {ad : Nat → Nat} {A : Nat → Prop} {adK adV : Nat → Nat} (C : Cx (eC adK adV) p s m args c cX10_broken 6 RX10 D kc A) {R : Int32 × St} {x1 : Int32} {x2 : Int32} {x3 : Int32} {x4 : Int32} {σ : St} (hR : RTi 0 0 p l e r_X10_broken s m args below meth c cX10_broken tC kc ad D A Q .int R.1 R.2) {k21 : Int32 → Int32 → St → Option (Int32 × St)} (hk21 : ∀ (x3 : Int32) (x4 : Int32) (σ : St) (H : Heap) (locs : List Loc) (ls : Array Slot), Dy tC kc ad D A s.heap σ H locs → lv_has ls 6 [(0, .ref (ad 0)), (1, .int x1), (2, .int x2), (3, .int x3), (4, .int x4)] → k21 x3 x4 σ = some R → W p l e r_X10_broken s m args below meth c H locs 0 0 Q (F0 m 21 ls [])) {H : Heap} {locs : List Loc} {ls : Array Slot} (Z : Dy tC kc ad D A s.heap σ H locs) (hl : lv_has ls 6 [(0, .ref (ad 0)), (1, .int x1), (2, .int x2), (3, .int x3), (4, .int x4)]) (h : f_X10_broken_80 x1 x2 x3 x4 σ k21 = some R) : W p l e r_X10_broken s m args below meth c H locs 0 0 Q (F0 m 80 ls []) := by
  have hx := C.1.1
  have hb := C.1.2.1
  unfold f_X10_broken_80 at h
  obtain ⟨v15, ev15, h⟩ := lb h
  refine lv_iinc (v := v15) (lv' := [(4, .int v15), (0, .ref (ad 0)), (1, .int x1), (2, .int x2), (3, .int x3)]) hx hb dX10_broken_80 hl (k := 4) rfl (by rw [ev15]; rfl) (by decide) rfl (fun ls hl => ?_)
  refine lv_goto (tgt := 21) hx hb dX10_broken_83 (by decide) ?_
  exact hk21 _ _ _ _ _ _ Z (lv_sub hl [1, 2, 3, 4, 0] rfl) h
set_option maxRecDepth 20000 in
theorem w_X10_broken_21 {p : Program} {l : Launch} {e : Env} {s : State} {m : MethodId} {args : Array Value} {below : List Frame} {meth : Method} {c : Code} {Q : State → Prop} {D : va_G} {kc : Nat → ClassId} {ad : Nat → Nat} {A : Nat → Prop} {adK adV : Nat → Nat} (C : Cx (eC adK adV) p s m args c cX10_broken 6 RX10 D kc A) {R : Int32 × St} {x1 : Int32} {x2 : Int32} (hR : RTi 0 0 p l e r_X10_broken s m args below meth c cX10_broken tC kc ad D A Q .int R.1 R.2) : ∀ (n : Nat) (x3 : Int32) (x4 : Int32) (σ : St) (H : Heap) (locs : List Loc) (ls : Array Slot), Dy tC kc ad D A s.heap σ H locs → lv_has ls 6 [(0, .ref (ad 0)), (1, .int x1), (2, .int x2), (3, .int x3), (4, .int x4)] → f_X10_broken_21 x1 x2 n x3 x4 σ = some R → W p l e r_X10_broken s m args below meth c H locs 0 0 Q (F0 m 21 ls []) := by
  have hx := C.1.1
  have hb := C.1.2.1
  intro n
  induction n with
  | zero =>
    intro x3 x4 σ H locs ls Z hl h
    exact absurd (show none = some R from h) (by simp)
  | succ n ih =>
    intro x3 x4 σ H locs ls Z hl h
    rw [f_X10_broken_21] at h
    refine lv_iload hx hb dX10_broken_21 (lv_at hl 4 rfl) ?_
    refine lv_aload_n hx hb dX10_broken_23 rfl (lv_at hl 0 rfl) ?_
    refine rg_X10_61 C Z dX10_broken_24 ?_
    refine lv_icmp_ge (tgt := 86) hx hb dX10_broken_27 (by decide) (fun c27 => ?_) (fun c27 => ?_)
    · have h := ip h c27
      refine lv_iload_n hx hb dX10_broken_86 rfl (lv_at hl 3 rfl) ?_
      obtain rfl := Option.some.inj h
      exact hR _ _ _ _ _ Z dX10_broken_87 rfl
    · have h := im h c27
      refine lv_aload_n hx hb dX10_broken_30 rfl (lv_at hl 0 rfl) ?_
      refine rg_X10_57 C Z dX10_broken_31 ?_
      refine lv_iload hx hb dX10_broken_34 (lv_at hl 4 rfl) ?_
      refine lv_iconst (v := 5) hx hb dX10_broken_36 (by decide) ?_
      refine lv_imul hx hb dX10_broken_37 ?_
      obtain ⟨v11, hv11, h⟩ := ob h
      refine g_iald C Z iaC13 hv11 dX10_broken_38 ?_
      refine lv_istore (lv' := [(5, .int v11), (0, .ref (ad 0)), (1, .int x1), (2, .int x2), (3, .int x3), (4, .int x4)]) hx hb dX10_broken_39 hl (by decide) rfl (fun ls hl => ?_)
      refine lv_aload_n hx hb dX10_broken_41 rfl (lv_at hl 1 rfl) ?_
      refine rg_X10_23 C Z dX10_broken_42 ?_
      refine lv_iload hx hb dX10_broken_45 (lv_at hl 0 rfl) ?_
      refine g_callVi (eC_ok adK adV) C Z (k_X7_has v11 σ) lk_X10_119 (by decide) rfl rfl hl (by decide) rfl (Nat.le_of_ble_eq_true rfl) (rest := []) rfl dX10_broken_47 (fun H locs Z => ?_)
      refine lv_if_eq (tgt := 80) hx hb dX10_broken_50 (by decide) (fun c50 => ?_) (fun c50 => ?_)
      · have h := ip h c50
        exact w_X10_broken_80 C hR ih Z (lv_sub hl [1, 2, 3, 4, 5] rfl) h
      · have h := im h c50
        refine lv_aload_n hx hb dX10_broken_53 rfl (lv_at hl 1 rfl) ?_
        refine rg_X10_23 C Z dX10_broken_54 ?_
        refine rg_X10_188 C Z dX10_broken_57 ?_
        refine lv_iload hx hb dX10_broken_60 (lv_at hl 0 rfl) ?_
        obtain ⟨v12, hv12, h⟩ := ob h
        refine g_iald C Z iaC18 hv12 dX10_broken_62 ?_
        refine lv_iload_n hx hb dX10_broken_63 rfl (lv_at hl 2 rfl) ?_
        refine lv_icmp_ne (tgt := 80) hx hb dX10_broken_64 (by decide) (fun c64 => ?_) (fun c64 => ?_)
        · have h := im h c64
          exact w_X10_broken_80 C hR ih Z (lv_sub hl [1, 2, 3, 4, 5] rfl) h
        · have h := ip h c64
          refine lv_aload_n hx hb dX10_broken_67 rfl (lv_at hl 1 rfl) ?_
          refine lv_iload hx hb dX10_broken_68 (lv_at hl 5 rfl) ?_
          refine lv_iload_n hx hb dX10_broken_70 rfl (lv_at hl 3 rfl) ?_
          obtain ⟨u13, hu13, h⟩ := ob h
          refine g_callVi (eC_ok adK adV) C Z (k_X10_isKept hu13) lk_X10_261 (by decide) rfl rfl hl (by decide) rfl (Nat.le_of_ble_eq_true rfl) (rest := []) rfl dX10_broken_71 (fun H locs Z => ?_)
          refine lv_if_ne (tgt := 80) hx hb dX10_broken_74 (by decide) (fun c74 => ?_) (fun c74 => ?_)
          · have h := im h c74
            exact w_X10_broken_80 C hR ih Z (lv_sub hl [1, 2, 3, 4, 5] rfl) h
          · have h := ip h c74
            obtain ⟨v14, ev14, h⟩ := lb h
            refine lv_iinc (v := v14) (lv' := [(3, .int v14), (5, .int v11), (0, .ref (ad 0)), (1, .int x1), (2, .int x2), (4, .int x4)]) hx hb dX10_broken_77 hl (k := 4) rfl (by rw [ev14]; rfl) (by decide) rfl (fun ls hl => ?_)
            exact w_X10_broken_80 C hR ih Z (lv_sub hl [2, 3, 4, 0, 5] rfl) h
set_option maxRecDepth 20000 in
theorem w_X10_broken_0 {p : Program} {l : Launch} {e : Env} {s : State} {m : MethodId} {args : Array Value} {below : List Frame} {meth : Method} {c : Code} {Q : State → Prop} {D : va_G} {kc : Nat → ClassId} {ad : Nat → Nat} {A : Nat → Prop} {adK adV : Nat → Nat} (C : Cx (eC adK adV) p s m args c cX10_broken 6 RX10 D kc A) {R : Int32 × St} {x1 : Int32} {x2 : Int32} {σ : St} (hR : RTi 0 0 p l e r_X10_broken s m args below meth c cX10_broken tC kc ad D A Q .int R.1 R.2) {H : Heap} {locs : List Loc} {ls : Array Slot} (Z : Dy tC kc ad D A s.heap σ H locs) (hl : lv_has ls 6 [(0, .ref (ad 0)), (1, .int x1), (2, .int x2)]) (h : f_X10_broken x1 x2 σ = some R) : W p l e r_X10_broken s m args below meth c H locs 0 0 Q (F0 m 0 ls []) := by
  have hx := C.1.1
  have hb := C.1.2.1
  unfold f_X10_broken at h
  refine lv_iload_n hx hb dX10_broken_0 rfl (lv_at hl 1 rfl) ?_
  refine g_callSi (eC_ok adK adV) C Z (k_X10_isSide x1 σ) lk_X10_111 hl (by decide) rfl (Nat.le_of_ble_eq_true rfl) (rest := []) rfl dX10_broken_1 (fun H locs Z => ?_)
  refine lv_if_eq (tgt := 14) hx hb dX10_broken_4 (by decide) (fun c4 => ?_) (fun c4 => ?_)
  · have h := ip h c4
    refine lv_iconst (v := (-1)) hx hb dX10_broken_14 (by decide) ?_
    obtain rfl := Option.some.inj h
    exact hR _ _ _ _ _ Z dX10_broken_15 rfl
  · have h := im h c4
    refine lv_iload_n hx hb dX10_broken_7 rfl (lv_at hl 2 rfl) ?_
    refine g_callSi (eC_ok adK adV) C Z (k_X10_isAuthor x2 σ) lk_X10_218 hl (by decide) rfl (Nat.le_of_ble_eq_true rfl) (rest := []) rfl dX10_broken_8 (fun H locs Z => ?_)
    refine lv_if_ne (tgt := 16) hx hb dX10_broken_11 (by decide) (fun c11 => ?_) (fun c11 => ?_)
    · have h := im h c11
      refine lv_iconst (v := 0) hx hb dX10_broken_16 (by decide) ?_
      refine lv_istore_n (lv' := [(3, .int 0), (0, .ref (ad 0)), (1, .int x1), (2, .int x2)]) hx hb dX10_broken_17 rfl hl (by decide) rfl (fun ls hl => ?_)
      refine lv_iconst (v := 0) hx hb dX10_broken_18 (by decide) ?_
      refine lv_istore (lv' := [(4, .int 0), (3, .int 0), (0, .ref (ad 0)), (1, .int x1), (2, .int x2)]) hx hb dX10_broken_19 hl (by decide) rfl (fun ls hl => ?_)
      exact w_X10_broken_21 C hR _ _ _ _ _ _ _ Z (lv_sub hl [2, 3, 4, 1, 0] rfl) h
    · have h := ip h c11
      refine lv_iconst (v := (-1)) hx hb dX10_broken_14 (by decide) ?_
      obtain rfl := Option.some.inj h
      exact hR _ _ _ _ _ Z dX10_broken_15 rfl
theorem k_X10_broken {l : Launch} {kc : Nat → ClassId} {ad : Nat → Nat} {D : va_G} {adK adV : Nat → Nat} {x1 : Int32} {x2 : Int32} {σ : St} {R : Int32 × St} (h : f_X10_broken x1 x2 σ = some R) : KC (eC adK adV) tC kc ad D l yX10_broken (.code yX10_broken cX10_broken 6 (some .int)) r_X10_broken [.ref (ad 0), .int x1, .int x2] (some (.int R.1)) σ R.2 := by
  refine g_enter (by decide) (Nat.le_of_ble_eq_true rfl) ?_
  intro p e s m args below meth c A hA C hr hlocks Z ls hl
  have hl : lv_has ls 6 [(0, .ref (ad 0)), (1, .int x1), (2, .int x2)] := hl
  exact w_X10_broken_0 C (g_RTi C.1.1 C.1.2.1 hr hlocks hA)  Z hl h
