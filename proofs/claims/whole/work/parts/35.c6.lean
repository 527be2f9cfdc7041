def r_X8_nearestLoss : Room := { frames := 6, cells := 0, slots := 0, locals := 145 }
set_option maxRecDepth 20000 in
theorem w_X8_nearestLoss_67 {p : Program} {l : Launch} {e : Env} {s : State} {m : MethodId} {args : Array Value} {below : List Frame} {meth : Method} {c : Code} {Q : State → Prop} {D : va_G} {kc : Nat → ClassId} {ad : Nat → Nat} {A : Nat → Prop} {adK adV : Nat → Nat} (C : Cx (eC adK adV) p s m args c cX8_nearestLoss 10 RX8 D kc A) {R : Int32} {x1 : Int32} {x2 : Int32} {x6 : Int64} {σ : St} (hR : RTi 0 0 p l e r_X8_nearestLoss s m args below meth c cX8_nearestLoss tC kc ad D A Q .int R σ) {H : Heap} {locs : List Loc} {ls : Array Slot} (Z : Dy tC kc ad D A s.heap σ H locs) (hl : lv_has ls 10 [(0, .ref (ad 7)), (1, .int x1), (2, .int x2), (6, .long x6)]) (h : f_X8_nearestLoss_67 x1 x2 x6 σ = some R) : W p l e r_X8_nearestLoss s m args below meth c H locs 0 0 Q (F0 m 67 ls []) := by
  have hx := C.1.1
  have hb := C.1.2.1
  unfold f_X8_nearestLoss_67 at h
  refine lv_aload_n hx hb dX8_nearestLoss_67 rfl (lv_at hl 0 rfl) ?_
  refine lv_iload_n hx hb dX8_nearestLoss_68 rfl (lv_at hl 1 rfl) ?_
  refine lv_iload_n hx hb dX8_nearestLoss_69 rfl (lv_at hl 2 rfl) ?_
  refine lv_lload hx hb dX8_nearestLoss_70 (lv_at hl 3 rfl) ?_
  obtain ⟨v12, hv12, h⟩ := ob h
  refine g_callVi (eC_ok adK adV) C Z (k_X8_leastLoss hv12) lk_X8_63 (by decide) rfl rfl hl (by decide) rfl (Nat.le_of_ble_eq_true rfl) (rest := []) rfl dX8_nearestLoss_72 (fun H locs Z => ?_)
  obtain rfl := Option.some.inj h
  exact hR _ _ _ _ _ Z dX8_nearestLoss_75 rfl
set_option maxRecDepth 20000 in
theorem w_X8_nearestLoss_0 {p : Program} {l : Launch} {e : Env} {s : State} {m : MethodId} {args : Array Value} {below : List Frame} {meth : Method} {c : Code} {Q : State → Prop} {D : va_G} {kc : Nat → ClassId} {ad : Nat → Nat} {A : Nat → Prop} {adK adV : Nat → Nat} (C : Cx (eC adK adV) p s m args c cX8_nearestLoss 10 RX8 D kc A) {R : Int32} {x1 : Int32} {x2 : Int32} {x3 : Int64} {σ : St} (hR : RTi 0 0 p l e r_X8_nearestLoss s m args below meth c cX8_nearestLoss tC kc ad D A Q .int R σ) {H : Heap} {locs : List Loc} {ls : Array Slot} (Z : Dy tC kc ad D A s.heap σ H locs) (hl : lv_has ls 10 [(0, .ref (ad 7)), (1, .int x1), (2, .int x2), (3, .long x3)]) (h : f_X8_nearestLoss x1 x2 x3 σ = some R) : W p l e r_X8_nearestLoss s m args below meth c H locs 0 0 Q (F0 m 0 ls []) := by
  have hx := C.1.1
  have hb := C.1.2.1
  unfold f_X8_nearestLoss at h
  refine lv_aload_n hx hb dX8_nearestLoss_0 rfl (lv_at hl 0 rfl) ?_
  refine lv_iload_n hx hb dX8_nearestLoss_1 rfl (lv_at hl 1 rfl) ?_
  refine lv_iload_n hx hb dX8_nearestLoss_2 rfl (lv_at hl 2 rfl) ?_
  refine lv_lload_n hx hb dX8_nearestLoss_3 rfl (lv_at hl 3 rfl) ?_
  obtain ⟨v9, hv9, h⟩ := ob h
  refine g_callVi (eC_ok adK adV) C Z (k_X8_leastLoss hv9) lk_X8_63 (by decide) rfl rfl hl (by decide) rfl (Nat.le_of_ble_eq_true rfl) (rest := []) rfl dX8_nearestLoss_4 (fun H locs Z => ?_)
  refine lv_istore (lv' := [(5, .int v9), (0, .ref (ad 7)), (1, .int x1), (2, .int x2), (3, .long x3)]) hx hb dX8_nearestLoss_7 hl (by decide) rfl (fun ls hl => ?_)
  refine lv_iload hx hb dX8_nearestLoss_9 (lv_at hl 0 rfl) ?_
  refine lv_if_ne (tgt := 16) hx hb dX8_nearestLoss_11 (by decide) (fun c11 => ?_) (fun c11 => ?_)
  · have h := im h c11
    refine lv_aload_n hx hb dX8_nearestLoss_16 rfl (lv_at hl 1 rfl) ?_
    refine lv_iload_n hx hb dX8_nearestLoss_17 rfl (lv_at hl 2 rfl) ?_
    refine lv_iload_n hx hb dX8_nearestLoss_18 rfl (lv_at hl 3 rfl) ?_
    refine lv_iload hx hb dX8_nearestLoss_19 (lv_at hl 0 rfl) ?_
    refine lv_iconst (v := 1) hx hb dX8_nearestLoss_21 (by decide) ?_
    refine lv_isub hx hb dX8_nearestLoss_22 ?_
    obtain ⟨v10, hv10, h⟩ := ob h
    refine g_callVl (eC_ok adK adV) C Z (k_X8_stockWith hv10) lk_X8_67 (by decide) rfl rfl hl (by decide) rfl (Nat.le_of_ble_eq_true rfl) (rest := []) rfl dX8_nearestLoss_23 (fun H locs Z => ?_)
    refine lv_lstore (lv' := [(6, .long v10), (5, .int v9), (0, .ref (ad 7)), (1, .int x1), (2, .int x2), (3, .long x3)]) hx hb dX8_nearestLoss_26 hl (by decide) rfl (fun ls hl => ?_)
    refine lv_aload_n hx hb dX8_nearestLoss_28 rfl (lv_at hl 2 rfl) ?_
    refine lv_iload_n hx hb dX8_nearestLoss_29 rfl (lv_at hl 3 rfl) ?_
    refine lv_iload_n hx hb dX8_nearestLoss_30 rfl (lv_at hl 4 rfl) ?_
    refine lv_iload hx hb dX8_nearestLoss_31 (lv_at hl 1 rfl) ?_
    refine lv_sipush (v := 1000) hx hb dX8_nearestLoss_33 (by decide) ?_
    refine g_min_7cf53 C hl wM_X8_71 (by decide) (rest := [.int x2, .int x1, .ref (ad 7)]) (Nat.le_of_ble_eq_true rfl) dX8_nearestLoss_36 ?_
    obtain ⟨v11, hv11, h⟩ := ob h
    refine g_callVl (eC_ok adK adV) C Z (k_X8_stockWith hv11) lk_X8_67 (by decide) rfl rfl hl (by decide) rfl (Nat.le_of_ble_eq_true rfl) (rest := []) rfl dX8_nearestLoss_39 (fun H locs Z => ?_)
    refine lv_lstore (lv' := [(8, .long v11), (6, .long v10), (5, .int v9), (0, .ref (ad 7)), (1, .int x1), (2, .int x2), (3, .long x3)]) hx hb dX8_nearestLoss_42 hl (by decide) rfl (fun ls hl => ?_)
    refine lv_iload hx hb dX8_nearestLoss_44 (lv_at hl 2 rfl) ?_
    refine lv_sipush (v := 1000) hx hb dX8_nearestLoss_46 (by decide) ?_
    refine lv_icmp_gt (tgt := 67) hx hb dX8_nearestLoss_49 (by decide) (fun c49 => ?_) (fun c49 => ?_)
    · have h := ip h c49
      exact w_X8_nearestLoss_67 C hR Z (lv_sub hl [3, 4, 5, 1] rfl) h
    · have h := im h c49
      refine lv_lload_n hx hb dX8_nearestLoss_52 rfl (lv_at hl 6 rfl) ?_
      refine lv_lload hx hb dX8_nearestLoss_53 (lv_at hl 0 rfl) ?_
      refine lv_lsub hx hb dX8_nearestLoss_55 ?_
      refine lv_lload hx hb dX8_nearestLoss_56 (lv_at hl 1 rfl) ?_
      refine lv_lload_n hx hb dX8_nearestLoss_58 rfl (lv_at hl 6 rfl) ?_
      refine lv_lsub hx hb dX8_nearestLoss_59 ?_
      refine g_lge (tgt := 67) hx hb dX8_nearestLoss_60 dX8_nearestLoss_61 (by decide) (fun c61 => ?_) (fun c61 => ?_)
      · have h := ip h c61
        exact w_X8_nearestLoss_67 C hR Z (lv_sub hl [3, 4, 5, 1] rfl) h
      · have h := im h c61
        refine lv_iload hx hb dX8_nearestLoss_64 (lv_at hl 2 rfl) ?_
        obtain rfl := Option.some.inj h
        exact hR _ _ _ _ _ Z dX8_nearestLoss_66 rfl
  · have h := ip h c11
    refine lv_iconst (v := 0) hx hb dX8_nearestLoss_14 (by decide) ?_
    obtain rfl := Option.some.inj h
    exact hR _ _ _ _ _ Z dX8_nearestLoss_15 rfl
theorem k_X8_nearestLoss {l : Launch} {kc : Nat → ClassId} {ad : Nat → Nat} {D : va_G} {adK adV : Nat → Nat} {x1 : Int32} {x2 : Int32} {x3 : Int64} {σ : St} {R : Int32} (h : f_X8_nearestLoss x1 x2 x3 σ = some R) : KC (eC adK adV) tC kc ad D l yX8_nearestLoss (.code yX8_nearestLoss cX8_nearestLoss 10 (some .int)) r_X8_nearestLoss [.ref (ad 7), .int x1, .int x2, .long x3] (some (.int R)) σ σ := by
  refine g_enter (by decide) (Nat.le_of_ble_eq_true rfl) ?_
  intro p e s m args below meth c A hA C hr hlocks Z ls hl
  have hl : lv_has ls 10 [(0, .ref (ad 7)), (1, .int x1), (2, .int x2), (3, .long x3)] := hl
  exact w_X8_nearestLoss_0 C (g_RTi C.1.1 C.1.2.1 hr hlocks hA)  Z hl h
def r_X8_beginFish : Room := { frames := 0, cells := 0, slots := 0, locals := 0 }
set_option maxRecDepth 20000 in
theorem w_X8_beginFish_2 {p : Program} {l : Launch} {e : Env} {s : State} {m : MethodId} {args : Array Value} {below : List Frame} {meth : Method} {c : Code} {Q : State → Prop} {D : va_G} {kc : Nat → ClassId} {ad : Nat → Nat} {A : Nat → Prop} {adK adV : Nat → Nat} (C : Cx (eC adK adV) p s m args c cX8_beginFish 3 RX8 D kc A) {R : St} {a1 : Nat} (hR : RTv 0 0 p l e r_X8_beginFish s m args below meth c cX8_beginFish tC kc ad D A Q R) (ha1 : isArr tC 1 a1) : ∀ (n : Nat) (x2 : Int32) (σ : St) (H : Heap) (locs : List Loc) (ls : Array Slot), Dy tC kc ad D A s.heap σ H locs → lv_has ls 3 [(0, .ref (ad 7)), (1, .ref (ad a1)), (2, .int x2)] → f_X8_beginFish_2 a1 n x2 σ = some R → W p l e r_X8_beginFish s m args below meth c H locs 0 0 Q (F0 m 2 ls []) := by
  have hx := C.1.1
  have hb := C.1.2.1
  intro n
  induction n with
  | zero =>
    intro x2 σ H locs ls Z hl h
    exact absurd (show none = some R from h) (by simp)
  | succ n ih =>
    intro x2 σ H locs ls Z hl h
    rw [f_X8_beginFish_2] at h
    refine lv_iload_n hx hb dX8_beginFish_2 rfl (lv_at hl 2 rfl) ?_
    refine lv_bipush (v := 8) hx hb dX8_beginFish_3 (by decide) ?_
    refine lv_icmp_ge (tgt := 30) hx hb dX8_beginFish_5 (by decide) (fun c5 => ?_) (fun c5 => ?_)
    · have h := ip h c5
      obtain rfl := Option.some.inj h
      exact hR _ _ _ _ Z dX8_beginFish_30
    · have h := im h c5
      refine lv_iload_n hx hb dX8_beginFish_8 rfl (lv_at hl 2 rfl) ?_
      refine lv_aload_n hx hb dX8_beginFish_9 rfl (lv_at hl 1 rfl) ?_
      refine g_len C Z ha1 (by decide) (v := lenI tC σ a1) rfl dX8_beginFish_10 ?_
      refine lv_icmp_ge (tgt := 30) hx hb dX8_beginFish_11 (by decide) (fun c11 => ?_) (fun c11 => ?_)
      · have h := ip h c11
        obtain rfl := Option.some.inj h
        exact hR _ _ _ _ Z dX8_beginFish_30
      · have h := im h c11
        refine lv_aload_n hx hb dX8_beginFish_14 rfl (lv_at hl 1 rfl) ?_
        refine lv_iload_n hx hb dX8_beginFish_15 rfl (lv_at hl 2 rfl) ?_
        refine lv_aload_n hx hb dX8_beginFish_16 rfl (lv_at hl 0 rfl) ?_
        refine rg_X8_21 C Z dX8_beginFish_17 ?_
        refine lv_iload_n hx hb dX8_beginFish_20 rfl (lv_at hl 2 rfl) ?_
        obtain ⟨v7, hv7, h⟩ := ob h
        refine g_iald C Z iaC53 hv7 dX8_beginFish_21 ?_
        refine lv_i2l (v := v7.toInt64) hx hb dX8_beginFish_22 rfl ?_
        obtain ⟨σ8, hσ8, h⟩ := ob h
        refine g_last C Z ha1 hσ8 dX8_beginFish_23 (fun H locs Z => ?_)
        obtain ⟨v9, ev9, h⟩ := lb h
        refine lv_iinc (v := v9) (lv' := [(2, .int v9), (0, .ref (ad 7)), (1, .ref (ad a1))]) hx hb dX8_beginFish_24 hl (k := 2) rfl (by rw [ev9]; rfl) (by decide) rfl (fun ls hl => ?_)
        refine lv_goto (tgt := 2) hx hb dX8_beginFish_27 (by decide) ?_
        exact ih _ _ _ _ _ Z (lv_sub hl [1, 2, 0] rfl) h
set_option maxRecDepth 20000 in
theorem w_X8_beginFish_0 {p : Program} {l : Launch} {e : Env} {s : State} {m : MethodId} {args : Array Value} {below : List Frame} {meth : Method} {c : Code} {Q : State → Prop} {D : va_G} {kc : Nat → ClassId} {ad : Nat → Nat} {A : Nat → Prop} {adK adV : Nat → Nat} (C : Cx (eC adK adV) p s m args c cX8_beginFish 3 RX8 D kc A) {R : St} {a1 : Nat} {σ : St} (hR : RTv 0 0 p l e r_X8_beginFish s m args below meth c cX8_beginFish tC kc ad D A Q R) (ha1 : isArr tC 1 a1) {H : Heap} {locs : List Loc} {ls : Array Slot} (Z : Dy tC kc ad D A s.heap σ H locs) (hl : lv_has ls 3 [(0, .ref (ad 7)), (1, .ref (ad a1))]) (h : f_X8_beginFish a1 σ = some R) : W p l e r_X8_beginFish s m args below meth c H locs 0 0 Q (F0 m 0 ls []) := by
  have hx := C.1.1
  have hb := C.1.2.1
  unfold f_X8_beginFish at h
  refine lv_iconst (v := 0) hx hb dX8_beginFish_0 (by decide) ?_
  refine lv_istore_n (lv' := [(2, .int 0), (0, .ref (ad 7)), (1, .ref (ad a1))]) hx hb dX8_beginFish_1 rfl hl (by decide) rfl (fun ls hl => ?_)
  exact w_X8_beginFish_2 C hR ha1 _ _ _ _ _ _ Z (lv_sub hl [1, 2, 0] rfl) h
theorem k_X8_beginFish {l : Launch} {kc : Nat → ClassId} {ad : Nat → Nat} {D : va_G} {adK adV : Nat → Nat} {a1 : Nat} (ha1 : isArr tC 1 a1) {σ : St} {R : St} (h : f_X8_beginFish a1 σ = some R) : KC (eC adK adV) tC kc ad D l yX8_beginFish (.code yX8_beginFish cX8_beginFish 3 none) r_X8_beginFish [.ref (ad 7), .ref (ad a1)] none σ R := by
  refine g_enter (by decide) (Nat.le_of_ble_eq_true rfl) ?_
  intro p e s m args below meth c A hA C hr hlocks Z ls hl
  have hl : lv_has ls 3 [(0, .ref (ad 7)), (1, .ref (ad a1))] := hl
  exact w_X8_beginFish_0 C (g_RTv C.1.1 C.1.2.1 hr hlocks hA) ha1 Z hl h
def r_X8_landedInYear : Room := { frames := 0, cells := 0, slots := 0, locals := 0 }
set_option maxRecDepth 20000 in
theorem w_X8_landedInYear_115 {p : Program} {l : Launch} {e : Env} {s : State} {m : MethodId} {args : Array Value} {below : List Frame} {meth : Method} {c : Code} {Q : State → Prop} {D : va_G} {kc : Nat → ClassId} {ad : Nat → Nat} {A : Nat → Prop} {adK adV : Nat → Nat} (C : Cx (eC adK adV) p s m args c cX8_landedInYear 15 RX8 D kc A) {R : Int64 × St} {a1 : Nat} {x2 : Int32} {x3 : Int32} {x4 : Int32} {x5 : Int32} {x6 : Int64} {x8 : Int64} {x10 : Int32} {σ : St} (hR : RTl 0 0 p l e r_X8_landedInYear s m args below meth c cX8_landedInYear tC kc ad D A Q R.1 R.2) (ha1 : isArr tC 1 a1) {k10 : Int64 → Int64 → Int32 → St → Option (Int64 × St)} (hk10 : ∀ (x6 : Int64) (x8 : Int64) (x10 : Int32) (σ : St) (H : Heap) (locs : List Loc) (ls : Array Slot), Dy tC kc ad D A s.heap σ H locs → lv_has ls 15 [(0, .ref (ad 7)), (1, .ref (ad a1)), (2, .int x2), (3, .int x3), (4, .int x4), (5, .int x5), (6, .long x6), (8, .long x8), (10, .int x10)] → k10 x6 x8 x10 σ = some R → W p l e r_X8_landedInYear s m args below meth c H locs 0 0 Q (F0 m 10 ls [])) {H : Heap} {locs : List Loc} {ls : Array Slot} (Z : Dy tC kc ad D A s.heap σ H locs) (hl : lv_has ls 15 [(0, .ref (ad 7)), (1, .ref (ad a1)), (2, .int x2), (3, .int x3), (4, .int x4), (5, .int x5), (6, .long x6), (8, .long x8), (10, .int x10)]) (h : f_X8_landedInYear_115 a1 x2 x3 x4 x5 x6 x8 x10 σ k10 = some R) : W p l e r_X8_landedInYear s m args below meth c H locs 0 0 Q (F0 m 115 ls []) := by
  have hx := C.1.1
  have hb := C.1.2.1
  unfold f_X8_landedInYear_115 at h
  obtain ⟨v28, ev28, h⟩ := lb h
  refine lv_iinc (v := v28) (lv' := [(10, .int v28), (0, .ref (ad 7)), (1, .ref (ad a1)), (2, .int x2), (3, .int x3), (4, .int x4), (5, .int x5), (6, .long x6), (8, .long x8)]) hx hb dX8_landedInYear_115 hl (k := 8) rfl (by rw [ev28]; rfl) (by decide) rfl (fun ls hl => ?_)
  refine lv_goto (tgt := 10) hx hb dX8_landedInYear_118 (by decide) ?_
  exact hk10 _ _ _ _ _ _ _ Z (lv_sub hl [1, 2, 3, 4, 5, 6, 7, 8, 0] rfl) h
set_option maxRecDepth 20000 in
theorem w_X8_landedInYear_48 {p : Program} {l : Launch} {e : Env} {s : State} {m : MethodId} {args : Array Value} {below : List Frame} {meth : Method} {c : Code} {Q : State → Prop} {D : va_G} {kc : Nat → ClassId} {ad : Nat → Nat} {A : Nat → Prop} {adK adV : Nat → Nat} (C : Cx (eC adK adV) p s m args c cX8_landedInYear 15 RX8 D kc A) {R : Int64 × St} {a1 : Nat} {x2 : Int32} {x3 : Int32} {x4 : Int32} {x5 : Int32} {x6 : Int64} {x8 : Int64} {x10 : Int32} {y0 : Int64} {σ : St} (hR : RTl 0 0 p l e r_X8_landedInYear s m args below meth c cX8_landedInYear tC kc ad D A Q R.1 R.2) (ha1 : isArr tC 1 a1) {k10 : Int64 → Int64 → Int32 → St → Option (Int64 × St)} (hk10 : ∀ (x6 : Int64) (x8 : Int64) (x10 : Int32) (σ : St) (H : Heap) (locs : List Loc) (ls : Array Slot), Dy tC kc ad D A s.heap σ H locs → lv_has ls 15 [(0, .ref (ad 7)), (1, .ref (ad a1)), (2, .int x2), (3, .int x3), (4, .int x4), (5, .int x5), (6, .long x6), (8, .long x8), (10, .int x10)] → k10 x6 x8 x10 σ = some R → W p l e r_X8_landedInYear s m args below meth c H locs 0 0 Q (F0 m 10 ls [])) {H : Heap} {locs : List Loc} {ls : Array Slot} (Z : Dy tC kc ad D A s.heap σ H locs) (hl : lv_has ls 15 [(0, .ref (ad 7)), (1, .ref (ad a1)), (2, .int x2), (3, .int x3), (4, .int x4), (5, .int x5), (6, .long x6), (8, .long x8), (10, .int x10)]) (h : f_X8_landedInYear_48 a1 x2 x3 x4 x5 x6 x8 x10 y0 σ k10 = some R) : W p l e r_X8_landedInYear s m args below meth c H locs 0 0 Q (F0 m 48 ls [.long y0]) := by
  have hx := C.1.1
  have hb := C.1.2.1
  unfold f_X8_landedInYear_48 at h
  refine lv_lstore (lv' := [(11, .long y0), (0, .ref (ad 7)), (1, .ref (ad a1)), (2, .int x2), (3, .int x3), (4, .int x4), (5, .int x5), (6, .long x6), (8, .long x8), (10, .int x10)]) hx hb dX8_landedInYear_48 hl (by decide) rfl (fun ls hl => ?_)
  refine lv_aload_n hx hb dX8_landedInYear_50 rfl (lv_at hl 2 rfl) ?_
  refine lv_iload hx hb dX8_landedInYear_51 (lv_at hl 9 rfl) ?_
  obtain ⟨v23, hv23, h⟩ := ob h
  refine g_lald C Z ha1 hv23 dX8_landedInYear_53 ?_
  refine lv_lload hx hb dX8_landedInYear_54 (lv_at hl 0 rfl) ?_
  refine lv_lsub hx hb dX8_landedInYear_56 ?_
  refine lv_sipush (v := 1000) hx hb dX8_landedInYear_57 (by decide) ?_
  refine lv_iload hx hb dX8_landedInYear_60 (lv_at hl 5 rfl) ?_
  refine lv_isub hx hb dX8_landedInYear_62 ?_
  refine lv_i2l (v := (1000 - x4).toInt64) hx hb dX8_landedInYear_63 rfl ?_
  refine lv_lmul hx hb dX8_landedInYear_64 ?_
  refine lv_ldc2 (v := 1000) hx hb C.1.2.2.2.1 (C.1.2.2.2.2 _ wDL_X8_55) dX8_landedInYear_65 ?_
  refine lv_ldiv hx hb dX8_landedInYear_68 (by decide) ?_
  obtain ⟨v24, ev24, h⟩ := lb h
  refine tn_l ev24 ?_
  refine lv_lstore (lv' := [(13, .long v24), (11, .long y0), (0, .ref (ad 7)), (1, .ref (ad a1)), (2, .int x2), (3, .int x3), (4, .int x4), (5, .int x5), (6, .long x6), (8, .long x8), (10, .int x10)]) hx hb dX8_landedInYear_69 hl (by decide) rfl (fun ls hl => ?_)
  refine lv_lload hx hb dX8_landedInYear_71 (lv_at hl 8 rfl) ?_
  refine lv_lload hx hb dX8_landedInYear_73 (lv_at hl 1 rfl) ?_
  refine lv_aload_n hx hb dX8_landedInYear_75 rfl (lv_at hl 2 rfl) ?_
  refine rg_X8_27 C Z dX8_landedInYear_76 ?_
  refine lv_iload hx hb dX8_landedInYear_79 (lv_at hl 10 rfl) ?_
  obtain ⟨v25, hv25, h⟩ := ob h
  refine g_iald C Z iaC55 hv25 dX8_landedInYear_81 ?_
  refine lv_i2l (v := v25.toInt64) hx hb dX8_landedInYear_82 rfl ?_
  refine lv_lmul hx hb dX8_landedInYear_83 ?_
  refine lv_ladd hx hb dX8_landedInYear_84 ?_
  obtain ⟨v26, ev26, h⟩ := lb h
  refine tn_l ev26 ?_
  refine lv_lstore (lv' := [(6, .long v26), (13, .long v24), (11, .long y0), (0, .ref (ad 7)), (1, .ref (ad a1)), (2, .int x2), (3, .int x3), (4, .int x4), (5, .int x5), (8, .long x8), (10, .int x10)]) hx hb dX8_landedInYear_85 hl (by decide) rfl (fun ls hl => ?_)
  refine lv_iload hx hb dX8_landedInYear_87 (lv_at hl 10 rfl) ?_
  refine lv_bipush (v := 7) hx hb dX8_landedInYear_89 (by decide) ?_
  refine lv_icmp_ne (tgt := 101) hx hb dX8_landedInYear_91 (by decide) (fun c91 => ?_) (fun c91 => ?_)
  · have h := im h c91
    refine lv_aload_n hx hb dX8_landedInYear_101 rfl (lv_at hl 4 rfl) ?_
    refine lv_iload hx hb dX8_landedInYear_102 (lv_at hl 10 rfl) ?_
    refine lv_iconst (v := 1) hx hb dX8_landedInYear_104 (by decide) ?_
    refine lv_iadd hx hb dX8_landedInYear_105 ?_
    refine lv_lload hx hb dX8_landedInYear_106 (lv_at hl 1 rfl) ?_
    refine lv_lload hx hb dX8_landedInYear_108 (lv_at hl 9 rfl) ?_
    refine lv_ladd hx hb dX8_landedInYear_110 ?_
    obtain ⟨σ27, hσ27, h⟩ := ob h
    refine g_last C Z ha1 hσ27 dX8_landedInYear_111 (fun H locs Z => ?_)
    refine lv_lconst (v := 0) hx hb dX8_landedInYear_112 (by decide) ?_
    refine lv_lstore (lv' := [(8, .long 0), (6, .long v26), (13, .long v24), (11, .long y0), (0, .ref (ad 7)), (1, .ref (ad a1)), (2, .int x2), (3, .int x3), (4, .int x4), (5, .int x5), (10, .int x10)]) hx hb dX8_landedInYear_113 hl (by decide) rfl (fun ls hl => ?_)
    exact w_X8_landedInYear_115 C hR ha1 hk10 Z (lv_sub hl [4, 5, 6, 7, 8, 9, 1, 0, 10] rfl) h
  · have h := ip h c91
    refine lv_lload hx hb dX8_landedInYear_94 (lv_at hl 1 rfl) ?_
    refine lv_lstore (lv' := [(8, .long v24), (6, .long v26), (13, .long v24), (11, .long y0), (0, .ref (ad 7)), (1, .ref (ad a1)), (2, .int x2), (3, .int x3), (4, .int x4), (5, .int x5), (10, .int x10)]) hx hb dX8_landedInYear_96 hl (by decide) rfl (fun ls hl => ?_)
    refine lv_goto (tgt := 115) hx hb dX8_landedInYear_98 (by decide) ?_
    exact w_X8_landedInYear_115 C hR ha1 hk10 Z (lv_sub hl [4, 5, 6, 7, 8, 9, 1, 0, 10] rfl) h
set_option maxRecDepth 20000 in
theorem w_X8_landedInYear_121 {p : Program} {l : Launch} {e : Env} {s : State} {m : MethodId} {args : Array Value} {below : List Frame} {meth : Method} {c : Code} {Q : State → Prop} {D : va_G} {kc : Nat → ClassId} {ad : Nat → Nat} {A : Nat → Prop} {adK adV : Nat → Nat} (C : Cx (eC adK adV) p s m args c cX8_landedInYear 15 RX8 D kc A) {R : Int64 × St} {a1 : Nat} {x5 : Int32} {x6 : Int64} {σ : St} (hR : RTl 0 0 p l e r_X8_landedInYear s m args below meth c cX8_landedInYear tC kc ad D A Q R.1 R.2) (ha1 : isArr tC 1 a1) {H : Heap} {locs : List Loc} {ls : Array Slot} (Z : Dy tC kc ad D A s.heap σ H locs) (hl : lv_has ls 15 [(1, .ref (ad a1)), (5, .int x5), (6, .long x6)]) (h : f_X8_landedInYear_121 a1 x5 x6 σ = some R) : W p l e r_X8_landedInYear s m args below meth c H locs 0 0 Q (F0 m 121 ls []) := by
  have hx := C.1.1
  have hb := C.1.2.1
  unfold f_X8_landedInYear_121 at h
  refine lv_aload_n hx hb dX8_landedInYear_121 rfl (lv_at hl 0 rfl) ?_
  refine g_len C Z ha1 (by decide) (v := lenI tC σ a1) rfl dX8_landedInYear_122 ?_
  refine lv_if_le (tgt := 132) hx hb dX8_landedInYear_123 (by decide) (fun c123 => ?_) (fun c123 => ?_)
  · have h := ip h c123
    refine lv_lload hx hb dX8_landedInYear_132 (lv_at hl 2 rfl) ?_
    obtain rfl := Option.some.inj h
    exact hR _ _ _ _ Z dX8_landedInYear_134
  · have h := im h c123
    refine lv_aload_n hx hb dX8_landedInYear_126 rfl (lv_at hl 0 rfl) ?_
    refine lv_iconst (v := 0) hx hb dX8_landedInYear_127 (by decide) ?_
    refine lv_iload hx hb dX8_landedInYear_128 (lv_at hl 1 rfl) ?_
    refine lv_i2l (v := x5.toInt64) hx hb dX8_landedInYear_130 rfl ?_
    obtain ⟨σ29, hσ29, h⟩ := ob h
    refine g_last C Z ha1 hσ29 dX8_landedInYear_131 (fun H locs Z => ?_)
    refine lv_lload hx hb dX8_landedInYear_132 (lv_at hl 2 rfl) ?_
    obtain rfl := Option.some.inj h
    exact hR _ _ _ _ Z dX8_landedInYear_134
set_option maxRecDepth 20000 in
theorem w_X8_landedInYear_10 {p : Program} {l : Launch} {e : Env} {s : State} {m : MethodId} {args : Array Value} {below : List Frame} {meth : Method} {c : Code} {Q : State → Prop} {D : va_G} {kc : Nat → ClassId} {ad : Nat → Nat} {A : Nat → Prop} {adK adV : Nat → Nat} (C : Cx (eC adK adV) p s m args c cX8_landedInYear 15 RX8 D kc A) {R : Int64 × St} {a1 : Nat} {x2 : Int32} {x3 : Int32} {x4 : Int32} {x5 : Int32} (hR : RTl 0 0 p l e r_X8_landedInYear s m args below meth c cX8_landedInYear tC kc ad D A Q R.1 R.2) (ha1 : isArr tC 1 a1) : ∀ (n : Nat) (x6 : Int64) (x8 : Int64) (x10 : Int32) (σ : St) (H : Heap) (locs : List Loc) (ls : Array Slot), Dy tC kc ad D A s.heap σ H locs → lv_has ls 15 [(0, .ref (ad 7)), (1, .ref (ad a1)), (2, .int x2), (3, .int x3), (4, .int x4), (5, .int x5), (6, .long x6), (8, .long x8), (10, .int x10)] → f_X8_landedInYear_10 a1 x2 x3 x4 x5 n x6 x8 x10 σ = some R → W p l e r_X8_landedInYear s m args below meth c H locs 0 0 Q (F0 m 10 ls []) := by
  have hx := C.1.1
  have hb := C.1.2.1
  intro n
  induction n with
  | zero =>
    intro x6 x8 x10 σ H locs ls Z hl h
    exact absurd (show none = some R from h) (by simp)
  | succ n ih =>
    intro x6 x8 x10 σ H locs ls Z hl h
    rw [f_X8_landedInYear_10] at h
    refine lv_iload hx hb dX8_landedInYear_10 (lv_at hl 8 rfl) ?_
    refine lv_if_lt (tgt := 121) hx hb dX8_landedInYear_12 (by decide) (fun c12 => ?_) (fun c12 => ?_)
    · have h := ip h c12
      exact w_X8_landedInYear_121 C hR ha1 Z (lv_sub hl [1, 5, 6] rfl) h
    · have h := im h c12
      refine lv_iload hx hb dX8_landedInYear_15 (lv_at hl 8 rfl) ?_
      refine lv_aload_n hx hb dX8_landedInYear_17 rfl (lv_at hl 1 rfl) ?_
      refine g_len C Z ha1 (by decide) (v := lenI tC σ a1) rfl dX8_landedInYear_18 ?_
      refine lv_icmp_ge (tgt := 121) hx hb dX8_landedInYear_19 (by decide) (fun c19 => ?_) (fun c19 => ?_)
      · have h := ip h c19
        exact w_X8_landedInYear_121 C hR ha1 Z (lv_sub hl [1, 5, 6] rfl) h
      · have h := im h c19
        refine lv_aload_n hx hb dX8_landedInYear_22 rfl (lv_at hl 0 rfl) ?_
        refine rg_X8_24 C Z dX8_landedInYear_23 ?_
        refine lv_iload hx hb dX8_landedInYear_26 (lv_at hl 8 rfl) ?_
        obtain ⟨v21, hv21, h⟩ := ob h
        refine g_iald C Z iaC54 hv21 dX8_landedInYear_28 ?_
        refine lv_iload_n hx hb dX8_landedInYear_29 rfl (lv_at hl 2 rfl) ?_
        refine lv_icmp_lt (tgt := 47) hx hb dX8_landedInYear_30 (by decide) (fun c30 => ?_) (fun c30 => ?_)
        · have h := ip h c30
          refine lv_lconst (v := 0) hx hb dX8_landedInYear_47 (by decide) ?_
          exact w_X8_landedInYear_48 C hR ha1 ih Z (lv_sub hl [0, 1, 2, 3, 4, 5, 6, 7, 8] rfl) h
        · have h := im h c30
          refine lv_aload_n hx hb dX8_landedInYear_33 rfl (lv_at hl 1 rfl) ?_
          refine lv_iload hx hb dX8_landedInYear_34 (lv_at hl 8 rfl) ?_
          obtain ⟨v22, hv22, h⟩ := ob h
          refine g_lald C Z ha1 hv22 dX8_landedInYear_36 ?_
          refine lv_iload_n hx hb dX8_landedInYear_37 rfl (lv_at hl 3 rfl) ?_
          refine lv_i2l (v := x3.toInt64) hx hb dX8_landedInYear_38 rfl ?_
          refine lv_lmul hx hb dX8_landedInYear_39 ?_
          refine lv_ldc2 (v := 1000) hx hb C.1.2.2.2.1 (C.1.2.2.2.2 _ wDL_X8_55) dX8_landedInYear_40 ?_
          refine lv_ldiv hx hb dX8_landedInYear_43 (by decide) ?_
          refine lv_goto (tgt := 48) hx hb dX8_landedInYear_44 (by decide) ?_
          exact w_X8_landedInYear_48 C hR ha1 ih Z (lv_sub hl [0, 1, 2, 3, 4, 5, 6, 7, 8] rfl) h
set_option maxRecDepth 20000 in
theorem w_X8_landedInYear_0 {p : Program} {l : Launch} {e : Env} {s : State} {m : MethodId} {args : Array Value} {below : List Frame} {meth : Method} {c : Code} {Q : State → Prop} {D : va_G} {kc : Nat → ClassId} {ad : Nat → Nat} {A : Nat → Prop} {adK adV : Nat → Nat} (C : Cx (eC adK adV) p s m args c cX8_landedInYear 15 RX8 D kc A) {R : Int64 × St} {a1 : Nat} {x2 : Int32} {x3 : Int32} {x4 : Int32} {x5 : Int32} {σ : St} (hR : RTl 0 0 p l e r_X8_landedInYear s m args below meth c cX8_landedInYear tC kc ad D A Q R.1 R.2) (ha1 : isArr tC 1 a1) {H : Heap} {locs : List Loc} {ls : Array Slot} (Z : Dy tC kc ad D A s.heap σ H locs) (hl : lv_has ls 15 [(0, .ref (ad 7)), (1, .ref (ad a1)), (2, .int x2), (3, .int x3), (4, .int x4), (5, .int x5)]) (h : f_X8_landedInYear a1 x2 x3 x4 x5 σ = some R) : W p l e r_X8_landedInYear s m args below meth c H locs 0 0 Q (F0 m 0 ls []) := by
  have hx := C.1.1
  have hb := C.1.2.1
  unfold f_X8_landedInYear at h
  refine lv_lconst (v := 0) hx hb dX8_landedInYear_0 (by decide) ?_
  refine lv_lstore (lv' := [(6, .long 0), (0, .ref (ad 7)), (1, .ref (ad a1)), (2, .int x2), (3, .int x3), (4, .int x4), (5, .int x5)]) hx hb dX8_landedInYear_1 hl (by decide) rfl (fun ls hl => ?_)
  refine lv_lconst (v := 0) hx hb dX8_landedInYear_3 (by decide) ?_
  refine lv_lstore (lv' := [(8, .long 0), (6, .long 0), (0, .ref (ad 7)), (1, .ref (ad a1)), (2, .int x2), (3, .int x3), (4, .int x4), (5, .int x5)]) hx hb dX8_landedInYear_4 hl (by decide) rfl (fun ls hl => ?_)
  refine lv_bipush (v := 7) hx hb dX8_landedInYear_6 (by decide) ?_
  refine lv_istore (lv' := [(10, .int 7), (8, .long 0), (6, .long 0), (0, .ref (ad 7)), (1, .ref (ad a1)), (2, .int x2), (3, .int x3), (4, .int x4), (5, .int x5)]) hx hb dX8_landedInYear_8 hl (by decide) rfl (fun ls hl => ?_)
  exact w_X8_landedInYear_10 C hR ha1 _ _ _ _ _ _ _ _ Z (lv_sub hl [3, 4, 5, 6, 7, 8, 2, 1, 0] rfl) h
theorem k_X8_landedInYear {l : Launch} {kc : Nat → ClassId} {ad : Nat → Nat} {D : va_G} {adK adV : Nat → Nat} {a1 : Nat} (ha1 : isArr tC 1 a1) {x2 : Int32} {x3 : Int32} {x4 : Int32} {x5 : Int32} {σ : St} {R : Int64 × St} (h : f_X8_landedInYear a1 x2 x3 x4 x5 σ = some R) : KC (eC adK adV) tC kc ad D l yX8_landedInYear (.code yX8_landedInYear cX8_landedInYear 15 (some .long)) r_X8_landedInYear [.ref (ad 7), .ref (ad a1), .int x2, .int x3, .int x4, .int x5] (some (.long R.1)) σ R.2 := by
  refine g_enter (by decide) (Nat.le_of_ble_eq_true rfl) ?_
  intro p e s m args below meth c A hA C hr hlocks Z ls hl
  have hl : lv_has ls 15 [(0, .ref (ad 7)), (1, .ref (ad a1)), (2, .int x2), (3, .int x3), (4, .int x4), (5, .int x5)] := hl
  exact w_X8_landedInYear_0 C (g_RTl C.1.1 C.1.2.1 hr hlocks hA) ha1 Z hl h
def r_X8_landedBy : Room := { frames := 1, cells := 0, slots := 0, locals := 34 }
set_option maxRecDepth 20000 in
theorem w_X8_landedBy_14 {p : Program} {l : Launch} {e : Env} {s : State} {m : MethodId} {args : Array Value} {below : List Frame} {meth : Method} {c : Code} {Q : State → Prop} {D : va_G} {kc : Nat → ClassId} {ad : Nat → Nat} {A : Nat → Prop} {adK adV : Nat → Nat} (C : Cx (eC adK adV) p s m args c cX8_landedBy 9 RX8 D kc A) {R : Int64 × St} {x1 : Int32} {x2 : Int32} {x3 : Int32} {x4 : Int32} {x5 : Int32} (hR : RTl 0 0 p l e r_X8_landedBy s m args below meth c cX8_landedBy tC kc ad D A Q R.1 R.2) : ∀ (n : Nat) (x6 : Int64) (x8 : Int32) (σ : St) (H : Heap) (locs : List Loc) (ls : Array Slot), Dy tC kc ad D A s.heap σ H locs → lv_has ls 9 [(0, .ref (ad 7)), (1, .int x1), (2, .int x2), (3, .int x3), (4, .int x4), (5, .int x5), (6, .long x6), (8, .int x8)] → f_X8_landedBy_14 x1 x2 x3 x4 x5 n x6 x8 σ = some R → W p l e r_X8_landedBy s m args below meth c H locs 0 0 Q (F0 m 14 ls []) := by
  have hx := C.1.1
  have hb := C.1.2.1
  intro n
  induction n with
  | zero =>
    intro x6 x8 σ H locs ls Z hl h
    exact absurd (show none = some R from h) (by simp)
  | succ n ih =>
    intro x6 x8 σ H locs ls Z hl h
    rw [f_X8_landedBy_14] at h
    refine lv_iload hx hb dX8_landedBy_14 (lv_at hl 7 rfl) ?_
    refine lv_iload_n hx hb dX8_landedBy_16 rfl (lv_at hl 1 rfl) ?_
    refine lv_icmp_ge (tgt := 45) hx hb dX8_landedBy_17 (by decide) (fun c17 => ?_) (fun c17 => ?_)
    · have h := ip h c17
      refine lv_lload hx hb dX8_landedBy_45 (lv_at hl 6 rfl) ?_
      obtain rfl := Option.some.inj h
      exact hR _ _ _ _ Z dX8_landedBy_47
    · have h := im h c17
      refine lv_lload hx hb dX8_landedBy_20 (lv_at hl 6 rfl) ?_
      refine lv_aload_n hx hb dX8_landedBy_22 rfl (lv_at hl 0 rfl) ?_
      refine lv_aload_n hx hb dX8_landedBy_23 rfl (lv_at hl 0 rfl) ?_
      refine rg_X8_30 C Z dX8_landedBy_24 ?_
      refine lv_iload_n hx hb dX8_landedBy_27 rfl (lv_at hl 2 rfl) ?_
      refine lv_iload_n hx hb dX8_landedBy_28 rfl (lv_at hl 3 rfl) ?_
      refine lv_iload hx hb dX8_landedBy_29 (lv_at hl 4 rfl) ?_
      refine lv_iload hx hb dX8_landedBy_31 (lv_at hl 5 rfl) ?_
      obtain ⟨u10, hu10, h⟩ := ob h
      refine g_callVl (eC_ok adK adV) C Z (k_X8_landedInYear iaC56 hu10) lk_X8_78 (by decide) rfl rfl hl (by decide) rfl (Nat.le_of_ble_eq_true rfl) (rest := [.long x6]) rfl dX8_landedBy_33 (fun H locs Z => ?_)
      refine lv_ladd hx hb dX8_landedBy_36 ?_
      obtain ⟨v11, ev11, h⟩ := lb h
      refine tn_l ev11 ?_
      refine lv_lstore (lv' := [(6, .long v11), (0, .ref (ad 7)), (1, .int x1), (2, .int x2), (3, .int x3), (4, .int x4), (5, .int x5), (8, .int x8)]) hx hb dX8_landedBy_37 hl (by decide) rfl (fun ls hl => ?_)
      obtain ⟨v12, ev12, h⟩ := lb h
      refine lv_iinc (v := v12) (lv' := [(8, .int v12), (6, .long v11), (0, .ref (ad 7)), (1, .int x1), (2, .int x2), (3, .int x3), (4, .int x4), (5, .int x5)]) hx hb dX8_landedBy_39 hl (k := 7) rfl (by rw [ev12]; rfl) (by decide) rfl (fun ls hl => ?_)
      refine lv_goto (tgt := 14) hx hb dX8_landedBy_42 (by decide) ?_
      exact ih _ _ _ _ _ _ Z (lv_sub hl [2, 3, 4, 5, 6, 7, 1, 0] rfl) h
set_option maxRecDepth 20000 in
theorem w_X8_landedBy_0 {p : Program} {l : Launch} {e : Env} {s : State} {m : MethodId} {args : Array Value} {below : List Frame} {meth : Method} {c : Code} {Q : State → Prop} {D : va_G} {kc : Nat → ClassId} {ad : Nat → Nat} {A : Nat → Prop} {adK adV : Nat → Nat} (C : Cx (eC adK adV) p s m args c cX8_landedBy 9 RX8 D kc A) {R : Int64 × St} {x1 : Int32} {x2 : Int32} {x3 : Int32} {x4 : Int32} {x5 : Int32} {σ : St} (hR : RTl 0 0 p l e r_X8_landedBy s m args below meth c cX8_landedBy tC kc ad D A Q R.1 R.2) {H : Heap} {locs : List Loc} {ls : Array Slot} (Z : Dy tC kc ad D A s.heap σ H locs) (hl : lv_has ls 9 [(0, .ref (ad 7)), (1, .int x1), (2, .int x2), (3, .int x3), (4, .int x4), (5, .int x5)]) (h : f_X8_landedBy x1 x2 x3 x4 x5 σ = some R) : W p l e r_X8_landedBy s m args below meth c H locs 0 0 Q (F0 m 0 ls []) := by
  have hx := C.1.1
  have hb := C.1.2.1
  unfold f_X8_landedBy at h
  refine lv_aload_n hx hb dX8_landedBy_0 rfl (lv_at hl 0 rfl) ?_
  refine lv_aload_n hx hb dX8_landedBy_1 rfl (lv_at hl 0 rfl) ?_
  refine rg_X8_30 C Z dX8_landedBy_2 ?_
  obtain ⟨σ9, hσ9, h⟩ := ob h
  refine g_callVv (eC_ok adK adV) C Z (k_X8_beginFish iaC56 hσ9) lk_X8_74 (by decide) rfl rfl hl (by decide) rfl (Nat.le_of_ble_eq_true rfl) (rest := []) rfl dX8_landedBy_5 (fun H locs Z => ?_)
  refine lv_lconst (v := 0) hx hb dX8_landedBy_8 (by decide) ?_
  refine lv_lstore (lv' := [(6, .long 0), (0, .ref (ad 7)), (1, .int x1), (2, .int x2), (3, .int x3), (4, .int x4), (5, .int x5)]) hx hb dX8_landedBy_9 hl (by decide) rfl (fun ls hl => ?_)
  refine lv_iconst (v := 0) hx hb dX8_landedBy_11 (by decide) ?_
  refine lv_istore (lv' := [(8, .int 0), (6, .long 0), (0, .ref (ad 7)), (1, .int x1), (2, .int x2), (3, .int x3), (4, .int x4), (5, .int x5)]) hx hb dX8_landedBy_12 hl (by decide) rfl (fun ls hl => ?_)
  exact w_X8_landedBy_14 C hR _ _ _ _ _ _ _ Z (lv_sub hl [2, 3, 4, 5, 6, 7, 1, 0] rfl) h
theorem k_X8_landedBy {l : Launch} {kc : Nat → ClassId} {ad : Nat → Nat} {D : va_G} {adK adV : Nat → Nat} {x1 : Int32} {x2 : Int32} {x3 : Int32} {x4 : Int32} {x5 : Int32} {σ : St} {R : Int64 × St} (h : f_X8_landedBy x1 x2 x3 x4 x5 σ = some R) : KC (eC adK adV) tC kc ad D l yX8_landedBy (.code yX8_landedBy cX8_landedBy 9 (some .long)) r_X8_landedBy [.ref (ad 7), .int x1, .int x2, .int x3, .int x4, .int x5] (some (.long R.1)) σ R.2 := by
  refine g_enter (by decide) (Nat.le_of_ble_eq_true rfl) ?_
  intro p e s m args below meth c A hA C hr hlocks Z ls hl
  have hl : lv_has ls 9 [(0, .ref (ad 7)), (1, .int x1), (2, .int x2), (3, .int x3), (4, .int x4), (5, .int x5)] := hl
  exact w_X8_landedBy_0 C (g_RTl C.1.1 C.1.2.1 hr hlocks hA)  Z hl h
def r_X8_paysFrom : Room := { frames := 1, cells := 0, slots := 0, locals := 34 }
set_option maxRecDepth 20000 in
theorem w_X8_paysFrom_22 {p : Program} {l : Launch} {e : Env} {s : State} {m : MethodId} {args : Array Value} {below : List Frame} {meth : Method} {c : Code} {Q : State → Prop} {D : va_G} {kc : Nat → ClassId} {ad : Nat → Nat} {A : Nat → Prop} {adK adV : Nat → Nat} (C : Cx (eC adK adV) p s m args c cX8_paysFrom 9 RX8 D kc A) {R : Int32 × St} {x1 : Int32} {x2 : Int32} {x3 : Int32} {x4 : Int32} {x5 : Int32} (hR : RTi 0 0 p l e r_X8_paysFrom s m args below meth c cX8_paysFrom tC kc ad D A Q .int R.1 R.2) : ∀ (n : Nat) (x6 : Int64) (x8 : Int32) (σ : St) (H : Heap) (locs : List Loc) (ls : Array Slot), Dy tC kc ad D A s.heap σ H locs → lv_has ls 9 [(0, .ref (ad 7)), (1, .int x1), (2, .int x2), (3, .int x3), (4, .int x4), (5, .int x5), (6, .long x6), (8, .int x8)] → f_X8_paysFrom_22 x1 x2 x3 x4 x5 n x6 x8 σ = some R → W p l e r_X8_paysFrom s m args below meth c H locs 0 0 Q (F0 m 22 ls []) := by
  have hx := C.1.1
  have hb := C.1.2.1
  intro n
  induction n with
  | zero =>
    intro x6 x8 σ H locs ls Z hl h
    exact absurd (show none = some R from h) (by simp)
  | succ n ih =>
    intro x6 x8 σ H locs ls Z hl h
    rw [f_X8_paysFrom_22] at h
    refine lv_iload hx hb dX8_paysFrom_22 (lv_at hl 7 rfl) ?_
    refine lv_bipush (v := 30) hx hb dX8_paysFrom_24 (by decide) ?_
    refine lv_icmp_gt (tgt := 83) hx hb dX8_paysFrom_26 (by decide) (fun c26 => ?_) (fun c26 => ?_)
    · have h := ip h c26
      refine lv_bipush (v := (-2)) hx hb dX8_paysFrom_83 (by decide) ?_
      obtain rfl := Option.some.inj h
      exact hR _ _ _ _ _ Z dX8_paysFrom_85 rfl
    · have h := im h c26
      refine lv_lload hx hb dX8_paysFrom_29 (lv_at hl 6 rfl) ?_
      refine lv_aload_n hx hb dX8_paysFrom_31 rfl (lv_at hl 0 rfl) ?_
      refine lv_aload_n hx hb dX8_paysFrom_32 rfl (lv_at hl 0 rfl) ?_
      refine rg_X8_34 C Z dX8_paysFrom_33 ?_
      refine lv_iload_n hx hb dX8_paysFrom_36 rfl (lv_at hl 2 rfl) ?_
      refine lv_iload_n hx hb dX8_paysFrom_37 rfl (lv_at hl 3 rfl) ?_
      refine lv_iload hx hb dX8_paysFrom_38 (lv_at hl 4 rfl) ?_
      refine lv_iload hx hb dX8_paysFrom_40 (lv_at hl 5 rfl) ?_
      obtain ⟨u17, hu17, h⟩ := ob h
      refine g_callVl (eC_ok adK adV) C Z (k_X8_landedInYear iaC57 hu17) lk_X8_78 (by decide) rfl rfl hl (by decide) rfl (Nat.le_of_ble_eq_true rfl) (rest := [.long x6]) rfl dX8_paysFrom_42 (fun H locs Z => ?_)
      refine lv_ladd hx hb dX8_paysFrom_45 ?_
      obtain ⟨v18, ev18, h⟩ := lb h
      refine tn_l ev18 ?_
      refine lv_lstore (lv' := [(6, .long v18), (0, .ref (ad 7)), (1, .int x1), (2, .int x2), (3, .int x3), (4, .int x4), (5, .int x5), (8, .int x8)]) hx hb dX8_paysFrom_46 hl (by decide) rfl (fun ls hl => ?_)
      refine lv_lload hx hb dX8_paysFrom_48 (lv_at hl 0 rfl) ?_
      refine lv_aload_n hx hb dX8_paysFrom_50 rfl (lv_at hl 1 rfl) ?_
      refine lv_aload_n hx hb dX8_paysFrom_51 rfl (lv_at hl 1 rfl) ?_
      refine rg_X8_30 C Z dX8_paysFrom_52 ?_
      refine lv_iload_n hx hb dX8_paysFrom_55 rfl (lv_at hl 2 rfl) ?_
      refine lv_iload_n hx hb dX8_paysFrom_56 rfl (lv_at hl 4 rfl) ?_
      refine lv_iload hx hb dX8_paysFrom_57 (lv_at hl 5 rfl) ?_
      refine lv_iload hx hb dX8_paysFrom_59 (lv_at hl 6 rfl) ?_
      obtain ⟨u19, hu19, h⟩ := ob h
      refine g_callVl (eC_ok adK adV) C Z (k_X8_landedInYear iaC56 hu19) lk_X8_78 (by decide) rfl rfl hl (by decide) rfl (Nat.le_of_ble_eq_true rfl) (rest := [.long v18]) rfl dX8_paysFrom_61 (fun H locs Z => ?_)
      refine lv_lsub hx hb dX8_paysFrom_64 ?_
      obtain ⟨v20, ev20, h⟩ := lb h
      refine tn_l ev20 ?_
      refine lv_lstore (lv' := [(6, .long v20), (0, .ref (ad 7)), (1, .int x1), (2, .int x2), (3, .int x3), (4, .int x4), (5, .int x5), (8, .int x8)]) hx hb dX8_paysFrom_65 hl (by decide) rfl (fun ls hl => ?_)
      refine lv_lload hx hb dX8_paysFrom_67 (lv_at hl 0 rfl) ?_
      refine lv_lconst (v := 0) hx hb dX8_paysFrom_69 (by decide) ?_
      refine g_llt (tgt := 77) hx hb dX8_paysFrom_70 dX8_paysFrom_71 (by decide) (fun c71 => ?_) (fun c71 => ?_)
      · have h := ip h c71
        obtain ⟨v21, ev21, h⟩ := lb h
        refine lv_iinc (v := v21) (lv' := [(8, .int v21), (6, .long v20), (0, .ref (ad 7)), (1, .int x1), (2, .int x2), (3, .int x3), (4, .int x4), (5, .int x5)]) hx hb dX8_paysFrom_77 hl (k := 7) rfl (by rw [ev21]; rfl) (by decide) rfl (fun ls hl => ?_)
        refine lv_goto (tgt := 22) hx hb dX8_paysFrom_80 (by decide) ?_
        exact ih _ _ _ _ _ _ Z (lv_sub hl [2, 3, 4, 5, 6, 7, 1, 0] rfl) h
      · have h := im h c71
        refine lv_iload hx hb dX8_paysFrom_74 (lv_at hl 7 rfl) ?_
        obtain rfl := Option.some.inj h
        exact hR _ _ _ _ _ Z dX8_paysFrom_76 rfl
set_option maxRecDepth 20000 in
theorem w_X8_paysFrom_0 {p : Program} {l : Launch} {e : Env} {s : State} {m : MethodId} {args : Array Value} {below : List Frame} {meth : Method} {c : Code} {Q : State → Prop} {D : va_G} {kc : Nat → ClassId} {ad : Nat → Nat} {A : Nat → Prop} {adK adV : Nat → Nat} (C : Cx (eC adK adV) p s m args c cX8_paysFrom 9 RX8 D kc A) {R : Int32 × St} {x1 : Int32} {x2 : Int32} {x3 : Int32} {x4 : Int32} {x5 : Int32} {σ : St} (hR : RTi 0 0 p l e r_X8_paysFrom s m args below meth c cX8_paysFrom tC kc ad D A Q .int R.1 R.2) {H : Heap} {locs : List Loc} {ls : Array Slot} (Z : Dy tC kc ad D A s.heap σ H locs) (hl : lv_has ls 9 [(0, .ref (ad 7)), (1, .int x1), (2, .int x2), (3, .int x3), (4, .int x4), (5, .int x5)]) (h : f_X8_paysFrom x1 x2 x3 x4 x5 σ = some R) : W p l e r_X8_paysFrom s m args below meth c H locs 0 0 Q (F0 m 0 ls []) := by
  have hx := C.1.1
  have hb := C.1.2.1
  unfold f_X8_paysFrom at h
  refine lv_aload_n hx hb dX8_paysFrom_0 rfl (lv_at hl 0 rfl) ?_
  refine lv_aload_n hx hb dX8_paysFrom_1 rfl (lv_at hl 0 rfl) ?_
  refine rg_X8_30 C Z dX8_paysFrom_2 ?_
  obtain ⟨σ15, hσ15, h⟩ := ob h
  refine g_callVv (eC_ok adK adV) C Z (k_X8_beginFish iaC56 hσ15) lk_X8_74 (by decide) rfl rfl hl (by decide) rfl (Nat.le_of_ble_eq_true rfl) (rest := []) rfl dX8_paysFrom_5 (fun H locs Z => ?_)
  refine lv_aload_n hx hb dX8_paysFrom_8 rfl (lv_at hl 0 rfl) ?_
  refine lv_aload_n hx hb dX8_paysFrom_9 rfl (lv_at hl 0 rfl) ?_
  refine rg_X8_34 C Z dX8_paysFrom_10 ?_
  obtain ⟨σ16, hσ16, h⟩ := ob h
  refine g_callVv (eC_ok adK adV) C Z (k_X8_beginFish iaC57 hσ16) lk_X8_74 (by decide) rfl rfl hl (by decide) rfl (Nat.le_of_ble_eq_true rfl) (rest := []) rfl dX8_paysFrom_13 (fun H locs Z => ?_)
  refine lv_lconst (v := 0) hx hb dX8_paysFrom_16 (by decide) ?_
  refine lv_lstore (lv' := [(6, .long 0), (0, .ref (ad 7)), (1, .int x1), (2, .int x2), (3, .int x3), (4, .int x4), (5, .int x5)]) hx hb dX8_paysFrom_17 hl (by decide) rfl (fun ls hl => ?_)
  refine lv_iconst (v := 1) hx hb dX8_paysFrom_19 (by decide) ?_
  refine lv_istore (lv' := [(8, .int 1), (6, .long 0), (0, .ref (ad 7)), (1, .int x1), (2, .int x2), (3, .int x3), (4, .int x4), (5, .int x5)]) hx hb dX8_paysFrom_20 hl (by decide) rfl (fun ls hl => ?_)
  exact w_X8_paysFrom_22 C hR _ _ _ _ _ _ _ Z (lv_sub hl [2, 3, 4, 5, 6, 7, 1, 0] rfl) h
theorem k_X8_paysFrom {l : Launch} {kc : Nat → ClassId} {ad : Nat → Nat} {D : va_G} {adK adV : Nat → Nat} {x1 : Int32} {x2 : Int32} {x3 : Int32} {x4 : Int32} {x5 : Int32} {σ : St} {R : Int32 × St} (h : f_X8_paysFrom x1 x2 x3 x4 x5 σ = some R) : KC (eC adK adV) tC kc ad D l yX8_paysFrom (.code yX8_paysFrom cX8_paysFrom 9 (some .int)) r_X8_paysFrom [.ref (ad 7), .int x1, .int x2, .int x3, .int x4, .int x5] (some (.int R.1)) σ R.2 := by
  refine g_enter (by decide) (Nat.le_of_ble_eq_true rfl) ?_
  intro p e s m args below meth c A hA C hr hlocks Z ls hl
  have hl : lv_has ls 9 [(0, .ref (ad 7)), (1, .int x1), (2, .int x2), (3, .int x3), (4, .int x4), (5, .int x5)] := hl
  exact w_X8_paysFrom_0 C (g_RTi C.1.1 C.1.2.1 hr hlocks hA)  Z hl h
def r_X9_isWeek : Room := { frames := 1, cells := 0, slots := 0, locals := 22 }
set_option maxRecDepth 20000 in
theorem w_X9_isWeek_0 {p : Program} {l : Launch} {e : Env} {s : State} {m : MethodId} {args : Array Value} {below : List Frame} {meth : Method} {c : Code} {Q : State → Prop} {D : va_G} {kc : Nat → ClassId} {ad : Nat → Nat} {A : Nat → Prop} {adK adV : Nat → Nat} (C : Cx (eC adK adV) p s m args c cX9_isWeek 1 RX9 D kc A) {R : Int32} {x0 : Int32} {σ : St} (hR : RTi 0 0 p l e r_X9_isWeek s m args below meth c cX9_isWeek tC kc ad D A Q .boolean R σ) {H : Heap} {locs : List Loc} {ls : Array Slot} (Z : Dy tC kc ad D A s.heap σ H locs) (hl : lv_has ls 1 [(0, .int x0)]) (h : f_X9_isWeek x0 = R) : W p l e r_X9_isWeek s m args below meth c H locs 0 0 Q (F0 m 0 ls []) := by
  have hx := C.1.1
  have hb := C.1.2.1
  unfold f_X9_isWeek at h
  refine lv_iload_n hx hb dX9_isWeek_0 rfl (lv_at hl 0 rfl) ?_
  refine lv_iconst (v := 0) hx hb dX9_isWeek_1 (by decide) ?_
  refine lv_bipush (v := 99) hx hb dX9_isWeek_2 (by decide) ?_
  refine g_callNi (eC_ok adK adV) C Z (k_X10_lies x0 0 99 σ) (C.2.2.2.1 _ nw_X9_28) lkn_X10_lies hl (by decide) rfl (Nat.le_of_ble_eq_true rfl) (rest := []) rfl dX9_isWeek_4 (fun H locs Z => ?_)
  subst h
  exact hR _ _ _ _ _ Z dX9_isWeek_7 (nar_b _)
theorem k_X9_isWeek {l : Launch} {kc : Nat → ClassId} {ad : Nat → Nat} {D : va_G} {adK adV : Nat → Nat} (x0 : Int32) (σ : St) : KC (eC adK adV) tC kc ad D l yX9_isWeek (.code yX9_isWeek cX9_isWeek 1 (some .boolean)) r_X9_isWeek [.int x0] (some (.int (f_X9_isWeek x0))) σ σ := by
  refine g_enter (by decide) (Nat.le_of_ble_eq_true rfl) ?_
  intro p e s m args below meth c A hA C hr hlocks Z ls hl
  have hl : lv_has ls 1 [(0, .int x0)] := hl
  exact w_X9_isWeek_0 C (g_RTi C.1.1 C.1.2.1 hr hlocks hA)  Z hl rfl
def r_X9_has : Room := { frames := 0, cells := 0, slots := 0, locals := 0 }
set_option maxRecDepth 20000 in
theorem w_X9_has_16 {p : Program} {l : Launch} {e : Env} {s : State} {m : MethodId} {args : Array Value} {below : List Frame} {meth : Method} {c : Code} {Q : State → Prop} {D : va_G} {kc : Nat → ClassId} {ad : Nat → Nat} {A : Nat → Prop} {adK adV : Nat → Nat} (C : Cx (eC adK adV) p s m args c cX9_has 2 RX9 D kc A) {R : Int32} {σ : St} (hR : RTi 0 0 p l e r_X9_has s m args below meth c cX9_has tC kc ad D A Q .boolean R σ) {H : Heap} {locs : List Loc} {ls : Array Slot} (Z : Dy tC kc ad D A s.heap σ H locs) (hl : lv_has ls 2 []) (h : f_X9_has_16 σ = R) : W p l e r_X9_has s m args below meth c H locs 0 0 Q (F0 m 16 ls []) := by
  have hx := C.1.1
  have hb := C.1.2.1
  unfold f_X9_has_16 at h
  refine lv_iconst (v := 0) hx hb dX9_has_16 (by decide) ?_
  subst h
  exact hR _ _ _ _ _ Z dX9_has_17 rfl
set_option maxRecDepth 20000 in
theorem w_X9_has_0 {p : Program} {l : Launch} {e : Env} {s : State} {m : MethodId} {args : Array Value} {below : List Frame} {meth : Method} {c : Code} {Q : State → Prop} {D : va_G} {kc : Nat → ClassId} {ad : Nat → Nat} {A : Nat → Prop} {adK adV : Nat → Nat} (C : Cx (eC adK adV) p s m args c cX9_has 2 RX9 D kc A) {R : Int32} {x1 : Int32} {σ : St} (hR : RTi 0 0 p l e r_X9_has s m args below meth c cX9_has tC kc ad D A Q .boolean R σ) {H : Heap} {locs : List Loc} {ls : Array Slot} (Z : Dy tC kc ad D A s.heap σ H locs) (hl : lv_has ls 2 [(0, .ref (ad 8)), (1, .int x1)]) (h : f_X9_has x1 σ = R) : W p l e r_X9_has s m args below meth c H locs 0 0 Q (F0 m 0 ls []) := by
  have hx := C.1.1
  have hb := C.1.2.1
  unfold f_X9_has at h
  refine lv_iload_n hx hb dX9_has_0 rfl (lv_at hl 1 rfl) ?_
  refine lv_if_lt (tgt := 16) hx hb dX9_has_1 (by decide) (fun c1 => ?_) (fun c1 => ?_)
  · have h := ip h c1
    exact w_X9_has_16 C hR Z (lv_sub hl [] rfl) h
  · have h := im h c1
    refine lv_iload_n hx hb dX9_has_4 rfl (lv_at hl 1 rfl) ?_
    refine lv_aload_n hx hb dX9_has_5 rfl (lv_at hl 0 rfl) ?_
    refine rg_X9_32 C Z dX9_has_6 ?_
    refine lv_icmp_ge (tgt := 16) hx hb dX9_has_9 (by decide) (fun c9 => ?_) (fun c9 => ?_)
    · have h := ip h c9
      exact w_X9_has_16 C hR Z (lv_sub hl [] rfl) h
    · have h := im h c9
      refine lv_iconst (v := 1) hx hb dX9_has_12 (by decide) ?_
      refine lv_goto (tgt := 17) hx hb dX9_has_13 (by decide) ?_
      subst h
      exact hR _ _ _ _ _ Z dX9_has_17 rfl
theorem k_X9_has {l : Launch} {kc : Nat → ClassId} {ad : Nat → Nat} {D : va_G} {adK adV : Nat → Nat} (x1 : Int32) (σ : St) : KC (eC adK adV) tC kc ad D l yX9_has (.code yX9_has cX9_has 2 (some .boolean)) r_X9_has [.ref (ad 8), .int x1] (some (.int (f_X9_has x1 σ))) σ σ := by
  refine g_enter (by decide) (Nat.le_of_ble_eq_true rfl) ?_
  intro p e s m args below meth c A hA C hr hlocks Z ls hl
  have hl : lv_has ls 2 [(0, .ref (ad 8)), (1, .int x1)] := hl
  exact w_X9_has_0 C (g_RTi C.1.1 C.1.2.1 hr hlocks hA)  Z hl rfl
def r_X9_add : Room := { frames := 0, cells := 0, slots := 0, locals := 0 }
set_option maxRecDepth 20000 in
theorem w_X9_add_0 {p : Program} {l : Launch} {e : Env} {s : State} {m : MethodId} {args : Array Value} {below : List Frame} {meth : Method} {c : Code} {Q : State → Prop} {D : va_G} {kc : Nat → ClassId} {ad : Nat → Nat} {A : Nat → Prop} {adK adV : Nat → Nat} (C : Cx (eC adK adV) p s m args c cX9_add 5 RX9 D kc A) {R : Int32 × St} {x1 : Int32} {x2 : Int32} {x3 : Int32} {x4 : Int32} {σ : St} (hR : RTi 0 0 p l e r_X9_add s m args below meth c cX9_add tC kc ad D A Q .int R.1 R.2) {H : Heap} {locs : List Loc} {ls : Array Slot} (Z : Dy tC kc ad D A s.heap σ H locs) (hl : lv_has ls 5 [(0, .ref (ad 8)), (1, .int x1), (2, .int x2), (3, .int x3), (4, .int x4)]) (h : f_X9_add x1 x2 x3 x4 σ = some R) : W p l e r_X9_add s m args below meth c H locs 0 0 Q (F0 m 0 ls []) := by
  have hx := C.1.1
  have hb := C.1.2.1
  unfold f_X9_add at h
  refine lv_aload_n hx hb dX9_add_0 rfl (lv_at hl 0 rfl) ?_
  refine rg_X9_32 C Z dX9_add_1 ?_
  refine lv_bipush (v := 8) hx hb dX9_add_4 (by decide) ?_
  refine lv_icmp_lt (tgt := 11) hx hb dX9_add_6 (by decide) (fun c6 => ?_) (fun c6 => ?_)
  · have h := ip h c6
    refine lv_aload_n hx hb dX9_add_11 rfl (lv_at hl 0 rfl) ?_
    refine rg_X9_11 C Z dX9_add_12 ?_
    refine lv_aload_n hx hb dX9_add_15 rfl (lv_at hl 0 rfl) ?_
    refine rg_X9_32 C Z dX9_add_16 ?_
    refine lv_iload_n hx hb dX9_add_19 rfl (lv_at hl 1 rfl) ?_
    obtain ⟨σ11, hσ11, h⟩ := ob h
    refine g_iast C Z iaC58 hσ11 dX9_add_20 (fun H locs Z => ?_)
    refine lv_aload_n hx hb dX9_add_21 rfl (lv_at hl 0 rfl) ?_
    refine rg_X9_15 C Z dX9_add_22 ?_
    refine lv_aload_n hx hb dX9_add_25 rfl (lv_at hl 0 rfl) ?_
    refine rg_X9_32 C Z dX9_add_26 ?_
    refine lv_iload_n hx hb dX9_add_29 rfl (lv_at hl 2 rfl) ?_
    obtain ⟨σ12, hσ12, h⟩ := ob h
    refine g_iast C Z iaC59 hσ12 dX9_add_30 (fun H locs Z => ?_)
    refine lv_aload_n hx hb dX9_add_31 rfl (lv_at hl 0 rfl) ?_
    refine rg_X9_18 C Z dX9_add_32 ?_
    refine lv_aload_n hx hb dX9_add_35 rfl (lv_at hl 0 rfl) ?_
    refine rg_X9_32 C Z dX9_add_36 ?_
    refine lv_iload_n hx hb dX9_add_39 rfl (lv_at hl 3 rfl) ?_
    obtain ⟨σ13, hσ13, h⟩ := ob h
    refine g_iast C Z iaC60 hσ13 dX9_add_40 (fun H locs Z => ?_)
    refine lv_aload_n hx hb dX9_add_41 rfl (lv_at hl 0 rfl) ?_
    refine rg_X9_21 C Z dX9_add_42 ?_
    refine lv_aload_n hx hb dX9_add_45 rfl (lv_at hl 0 rfl) ?_
    refine rg_X9_32 C Z dX9_add_46 ?_
    refine lv_iload hx hb dX9_add_49 (lv_at hl 4 rfl) ?_
    obtain ⟨σ14, hσ14, h⟩ := ob h
    refine g_iast C Z iaC61 hσ14 dX9_add_51 (fun H locs Z => ?_)
    refine lv_aload_n hx hb dX9_add_52 rfl (lv_at hl 0 rfl) ?_
    refine lv_dup hx hb dX9_add_53 rfl ?_
    refine rg_X9_32 C Z dX9_add_54 ?_
    refine lv_iconst (v := 1) hx hb dX9_add_57 (by decide) ?_
    refine lv_iadd hx hb dX9_add_58 ?_
    obtain ⟨σ15, eσ15, h⟩ := lb h
    refine rp_X9_32 C Z eσ15 dX9_add_59 (fun H locs Z => ?_)
    refine lv_aload_n hx hb dX9_add_62 rfl (lv_at hl 0 rfl) ?_
    refine rg_X9_32 C Z dX9_add_63 ?_
    refine lv_iconst (v := 1) hx hb dX9_add_66 (by decide) ?_
    refine lv_isub hx hb dX9_add_67 ?_
    obtain rfl := Option.some.inj h
    exact hR _ _ _ _ _ Z dX9_add_68 rfl
  · have h := im h c6
    refine lv_iconst (v := (-1)) hx hb dX9_add_9 (by decide) ?_
    obtain rfl := Option.some.inj h
    exact hR _ _ _ _ _ Z dX9_add_10 rfl
theorem k_X9_add {l : Launch} {kc : Nat → ClassId} {ad : Nat → Nat} {D : va_G} {adK adV : Nat → Nat} {x1 : Int32} {x2 : Int32} {x3 : Int32} {x4 : Int32} {σ : St} {R : Int32 × St} (h : f_X9_add x1 x2 x3 x4 σ = some R) : KC (eC adK adV) tC kc ad D l yX9_add (.code yX9_add cX9_add 5 (some .int)) r_X9_add [.ref (ad 8), .int x1, .int x2, .int x3, .int x4] (some (.int R.1)) σ R.2 := by
  refine g_enter (by decide) (Nat.le_of_ble_eq_true rfl) ?_
  intro p e s m args below meth c A hA C hr hlocks Z ls hl
  have hl : lv_has ls 5 [(0, .ref (ad 8)), (1, .int x1), (2, .int x2), (3, .int x3), (4, .int x4)] := hl
  exact w_X9_add_0 C (g_RTi C.1.1 C.1.2.1 hr hlocks hA)  Z hl h
def r_X9_addBar : Room := { frames := 2, cells := 0, slots := 0, locals := 42 }
set_option maxRecDepth 20000 in
theorem w_X9_addBar_61 {p : Program} {l : Launch} {e : Env} {s : State} {m : MethodId} {args : Array Value} {below : List Frame} {meth : Method} {c : Code} {Q : State → Prop} {D : va_G} {kc : Nat → ClassId} {ad : Nat → Nat} {A : Nat → Prop} {adK adV : Nat → Nat} (C : Cx (eC adK adV) p s m args c cX9_addBar 5 RX9 D kc A) {R : Int32 × St} {σ : St} (hR : RTi 0 0 p l e r_X9_addBar s m args below meth c cX9_addBar tC kc ad D A Q .int R.1 R.2) {H : Heap} {locs : List Loc} {ls : Array Slot} (Z : Dy tC kc ad D A s.heap σ H locs) (hl : lv_has ls 5 [(0, .ref (ad 8))]) (h : f_X9_addBar_61 σ = some R) : W p l e r_X9_addBar s m args below meth c H locs 0 0 Q (F0 m 61 ls []) := by
  have hx := C.1.1
  have hb := C.1.2.1
  unfold f_X9_addBar_61 at h
  refine lv_aload_n hx hb dX9_addBar_61 rfl (lv_at hl 0 rfl) ?_
  refine lv_dup hx hb dX9_addBar_62 rfl ?_
  refine rg_X9_36 C Z dX9_addBar_63 ?_
  refine lv_iconst (v := 1) hx hb dX9_addBar_66 (by decide) ?_
  refine lv_iadd hx hb dX9_addBar_67 ?_
  obtain ⟨σ9, eσ9, h⟩ := lb h
  refine rp_X9_36 C Z eσ9 dX9_addBar_68 (fun H locs Z => ?_)
  refine lv_aload_n hx hb dX9_addBar_71 rfl (lv_at hl 0 rfl) ?_
  refine rg_X9_36 C Z dX9_addBar_72 ?_
  obtain rfl := Option.some.inj h
  exact hR _ _ _ _ _ Z dX9_addBar_75 rfl
set_option maxRecDepth 20000 in
theorem w_X9_addBar_36 {p : Program} {l : Launch} {e : Env} {s : State} {m : MethodId} {args : Array Value} {below : List Frame} {meth : Method} {c : Code} {Q : State → Prop} {D : va_G} {kc : Nat → ClassId} {ad : Nat → Nat} {A : Nat → Prop} {adK adV : Nat → Nat} (C : Cx (eC adK adV) p s m args c cX9_addBar 5 RX9 D kc A) {R : Int32 × St} {x1 : Int32} {x3 : Int32} (hR : RTi 0 0 p l e r_X9_addBar s m args below meth c cX9_addBar tC kc ad D A Q .int R.1 R.2) : ∀ (n : Nat) (x4 : Int32) (σ : St) (H : Heap) (locs : List Loc) (ls : Array Slot), Dy tC kc ad D A s.heap σ H locs → lv_has ls 5 [(0, .ref (ad 8)), (1, .int x1), (3, .int x3), (4, .int x4)] → f_X9_addBar_36 x1 x3 n x4 σ = some R → W p l e r_X9_addBar s m args below meth c H locs 0 0 Q (F0 m 36 ls []) := by
  have hx := C.1.1
  have hb := C.1.2.1
  intro n
  induction n with
  | zero =>
    intro x4 σ H locs ls Z hl h
    exact absurd (show none = some R from h) (by simp)
  | succ n ih =>
    intro x4 σ H locs ls Z hl h
    rw [f_X9_addBar_36] at h
    refine lv_iload hx hb dX9_addBar_36 (lv_at hl 3 rfl) ?_
    refine lv_iload_n hx hb dX9_addBar_38 rfl (lv_at hl 2 rfl) ?_
    refine lv_icmp_gt (tgt := 61) hx hb dX9_addBar_39 (by decide) (fun c39 => ?_) (fun c39 => ?_)
    · have h := ip h c39
      exact w_X9_addBar_61 C hR Z (lv_sub hl [0] rfl) h
    · have h := im h c39
      refine lv_aload_n hx hb dX9_addBar_42 rfl (lv_at hl 0 rfl) ?_
      refine rg_X9_24 C Z dX9_addBar_43 ?_
      refine lv_iload_n hx hb dX9_addBar_46 rfl (lv_at hl 1 rfl) ?_
      refine lv_bipush (v := 100) hx hb dX9_addBar_47 (by decide) ?_
      refine lv_imul hx hb dX9_addBar_49 ?_
      refine lv_iload hx hb dX9_addBar_50 (lv_at hl 3 rfl) ?_
      refine lv_iadd hx hb dX9_addBar_52 ?_
      refine lv_iconst (v := 1) hx hb dX9_addBar_53 (by decide) ?_
      obtain ⟨σ7, hσ7, h⟩ := ob h
      refine g_zast C Z iaC62 hσ7 dX9_addBar_54 (fun H locs Z => ?_)
      obtain ⟨v8, ev8, h⟩ := lb h
      refine lv_iinc (v := v8) (lv' := [(4, .int v8), (0, .ref (ad 8)), (1, .int x1), (3, .int x3)]) hx hb dX9_addBar_55 hl (k := 3) rfl (by rw [ev8]; rfl) (by decide) rfl (fun ls hl => ?_)
      refine lv_goto (tgt := 36) hx hb dX9_addBar_58 (by decide) ?_
      exact ih _ _ _ _ _ Z (lv_sub hl [1, 2, 3, 0] rfl) h
set_option maxRecDepth 20000 in
theorem w_X9_addBar_0 {p : Program} {l : Launch} {e : Env} {s : State} {m : MethodId} {args : Array Value} {below : List Frame} {meth : Method} {c : Code} {Q : State → Prop} {D : va_G} {kc : Nat → ClassId} {ad : Nat → Nat} {A : Nat → Prop} {adK adV : Nat → Nat} (C : Cx (eC adK adV) p s m args c cX9_addBar 5 RX9 D kc A) {R : Int32 × St} {x1 : Int32} {x2 : Int32} {x3 : Int32} {σ : St} (hR : RTi 0 0 p l e r_X9_addBar s m args below meth c cX9_addBar tC kc ad D A Q .int R.1 R.2) {H : Heap} {locs : List Loc} {ls : Array Slot} (Z : Dy tC kc ad D A s.heap σ H locs) (hl : lv_has ls 5 [(0, .ref (ad 8)), (1, .int x1), (2, .int x2), (3, .int x3)]) (h : f_X9_addBar x1 x2 x3 σ = some R) : W p l e r_X9_addBar s m args below meth c H locs 0 0 Q (F0 m 0 ls []) := by
  have hx := C.1.1
  have hb := C.1.2.1
  unfold f_X9_addBar at h
  refine lv_aload_n hx hb dX9_addBar_0 rfl (lv_at hl 0 rfl) ?_
  refine rg_X9_36 C Z dX9_addBar_1 ?_
  refine lv_bipush (v := 20) hx hb dX9_addBar_4 (by decide) ?_
  refine lv_icmp_ge (tgt := 31) hx hb dX9_addBar_6 (by decide) (fun c6 => ?_) (fun c6 => ?_)
  · have h := ip h c6
    refine lv_iconst (v := (-1)) hx hb dX9_addBar_31 (by decide) ?_
    obtain rfl := Option.some.inj h
    exact hR _ _ _ _ _ Z dX9_addBar_32 rfl
  · have h := im h c6
    refine lv_aload_n hx hb dX9_addBar_9 rfl (lv_at hl 0 rfl) ?_
    refine lv_iload_n hx hb dX9_addBar_10 rfl (lv_at hl 1 rfl) ?_
    refine g_callVi (eC_ok adK adV) C Z (k_X9_has x1 σ) lk_X9_39 (by decide) rfl rfl hl (by decide) rfl (Nat.le_of_ble_eq_true rfl) (rest := []) rfl dX9_addBar_11 (fun H locs Z => ?_)
    refine lv_if_eq (tgt := 31) hx hb dX9_addBar_14 (by decide) (fun c14 => ?_) (fun c14 => ?_)
    · have h := ip h c14
      refine lv_iconst (v := (-1)) hx hb dX9_addBar_31 (by decide) ?_
      obtain rfl := Option.some.inj h
      exact hR _ _ _ _ _ Z dX9_addBar_32 rfl
    · have h := im h c14
      refine lv_iload_n hx hb dX9_addBar_17 rfl (lv_at hl 2 rfl) ?_
      refine g_callSi (eC_ok adK adV) C Z (k_X9_isWeek x2 σ) lk_X9_43 hl (by decide) rfl (Nat.le_of_ble_eq_true rfl) (rest := []) rfl dX9_addBar_18 (fun H locs Z => ?_)
      refine lv_if_eq (tgt := 31) hx hb dX9_addBar_21 (by decide) (fun c21 => ?_) (fun c21 => ?_)
      · have h := ip h c21
        refine lv_iconst (v := (-1)) hx hb dX9_addBar_31 (by decide) ?_
        obtain rfl := Option.some.inj h
        exact hR _ _ _ _ _ Z dX9_addBar_32 rfl
      · have h := im h c21
        refine lv_iload_n hx hb dX9_addBar_24 rfl (lv_at hl 3 rfl) ?_
        refine g_callSi (eC_ok adK adV) C Z (k_X9_isWeek x3 σ) lk_X9_43 hl (by decide) rfl (Nat.le_of_ble_eq_true rfl) (rest := []) rfl dX9_addBar_25 (fun H locs Z => ?_)
        refine lv_if_ne (tgt := 33) hx hb dX9_addBar_28 (by decide) (fun c28 => ?_) (fun c28 => ?_)
        · have h := im h c28
          refine lv_iload_n hx hb dX9_addBar_33 rfl (lv_at hl 2 rfl) ?_
          refine lv_istore (lv' := [(4, .int x2), (0, .ref (ad 8)), (1, .int x1), (2, .int x2), (3, .int x3)]) hx hb dX9_addBar_34 hl (by decide) rfl (fun ls hl => ?_)
          exact w_X9_addBar_36 C hR _ _ _ _ _ _ Z (lv_sub hl [1, 2, 4, 0] rfl) h
        · have h := ip h c28
          refine lv_iconst (v := (-1)) hx hb dX9_addBar_31 (by decide) ?_
          obtain rfl := Option.some.inj h
          exact hR _ _ _ _ _ Z dX9_addBar_32 rfl
theorem k_X9_addBar {l : Launch} {kc : Nat → ClassId} {ad : Nat → Nat} {D : va_G} {adK adV : Nat → Nat} {x1 : Int32} {x2 : Int32} {x3 : Int32} {σ : St} {R : Int32 × St} (h : f_X9_addBar x1 x2 x3 σ = some R) : KC (eC adK adV) tC kc ad D l yX9_addBar (.code yX9_addBar cX9_addBar 5 (some .int)) r_X9_addBar [.ref (ad 8), .int x1, .int x2, .int x3] (some (.int R.1)) σ R.2 := by
  refine g_enter (by decide) (Nat.le_of_ble_eq_true rfl) ?_
  intro p e s m args below meth c A hA C hr hlocks Z ls hl
  have hl : lv_has ls 5 [(0, .ref (ad 8)), (1, .int x1), (2, .int x2), (3, .int x3)] := hl
  exact w_X9_addBar_0 C (g_RTi C.1.1 C.1.2.1 hr hlocks hA)  Z hl h
def r_X9_lostBy : Room := { frames := 1, cells := 0, slots := 0, locals := 21 }
set_option maxRecDepth 20000 in
theorem w_X9_lostBy_54 {p : Program} {l : Launch} {e : Env} {s : State} {m : MethodId} {args : Array Value} {below : List Frame} {meth : Method} {c : Code} {Q : State → Prop} {D : va_G} {kc : Nat → ClassId} {ad : Nat → Nat} {A : Nat → Prop} {adK adV : Nat → Nat} (C : Cx (eC adK adV) p s m args c cX9_lostBy 5 RX9 D kc A) {R : Int32} {x1 : Int32} {x2 : Int32} {x4 : Int32} {y0 : Int32} {y1 : Int32} {σ : St} (hR : RTi 0 0 p l e r_X9_lostBy s m args below meth c cX9_lostBy tC kc ad D A Q .int R σ) {k15 : Int32 → Int32 → Option (Int32)} (hk15 : ∀ (x3 : Int32) (x4 : Int32) (H : Heap) (locs : List Loc) (ls : Array Slot), Dy tC kc ad D A s.heap σ H locs → lv_has ls 5 [(0, .ref (ad 8)), (1, .int x1), (2, .int x2), (3, .int x3), (4, .int x4)] → k15 x3 x4 = some R → W p l e r_X9_lostBy s m args below meth c H locs 0 0 Q (F0 m 15 ls [])) {H : Heap} {locs : List Loc} {ls : Array Slot} (Z : Dy tC kc ad D A s.heap σ H locs) (hl : lv_has ls 5 [(0, .ref (ad 8)), (1, .int x1), (2, .int x2), (4, .int x4)]) (h : f_X9_lostBy_54 x1 x2 x4 y0 y1 σ k15 = some R) : W p l e r_X9_lostBy s m args below meth c H locs 0 0 Q (F0 m 54 ls [.int y1, .int y0]) := by
  have hx := C.1.1
  have hb := C.1.2.1
  unfold f_X9_lostBy_54 at h
  refine lv_iadd hx hb dX9_lostBy_54 ?_
  obtain ⟨v11, ev11, h⟩ := lb h
  refine tn_i ev11 ?_
  refine lv_istore_n (lv' := [(3, .int v11), (0, .ref (ad 8)), (1, .int x1), (2, .int x2), (4, .int x4)]) hx hb dX9_lostBy_55 rfl hl (by decide) rfl (fun ls hl => ?_)
  obtain ⟨v12, ev12, h⟩ := lb h
  refine lv_iinc (v := v12) (lv' := [(4, .int v12), (3, .int v11), (0, .ref (ad 8)), (1, .int x1), (2, .int x2)]) hx hb dX9_lostBy_56 hl (k := 4) rfl (by rw [ev12]; rfl) (by decide) rfl (fun ls hl => ?_)
  refine lv_goto (tgt := 15) hx hb dX9_lostBy_59 (by decide) ?_
  exact hk15 _ _ _ _ _ Z (lv_sub hl [2, 3, 4, 1, 0] rfl) h
set_option maxRecDepth 20000 in
theorem w_X9_lostBy_15 {p : Program} {l : Launch} {e : Env} {s : State} {m : MethodId} {args : Array Value} {below : List Frame} {meth : Method} {c : Code} {Q : State → Prop} {D : va_G} {kc : Nat → ClassId} {ad : Nat → Nat} {A : Nat → Prop} {adK adV : Nat → Nat} (C : Cx (eC adK adV) p s m args c cX9_lostBy 5 RX9 D kc A) {R : Int32} {x1 : Int32} {x2 : Int32} {σ : St} (hR : RTi 0 0 p l e r_X9_lostBy s m args below meth c cX9_lostBy tC kc ad D A Q .int R σ) : ∀ (n : Nat) (x3 : Int32) (x4 : Int32) (H : Heap) (locs : List Loc) (ls : Array Slot), Dy tC kc ad D A s.heap σ H locs → lv_has ls 5 [(0, .ref (ad 8)), (1, .int x1), (2, .int x2), (3, .int x3), (4, .int x4)] → f_X9_lostBy_15 x1 x2 σ n x3 x4 = some R → W p l e r_X9_lostBy s m args below meth c H locs 0 0 Q (F0 m 15 ls []) := by
  have hx := C.1.1
  have hb := C.1.2.1
  intro n
  induction n with
  | zero =>
    intro x3 x4 H locs ls Z hl h
    exact absurd (show none = some R from h) (by simp)
  | succ n ih =>
    intro x3 x4 H locs ls Z hl h
    rw [f_X9_lostBy_15] at h
    refine lv_iload hx hb dX9_lostBy_15 (lv_at hl 4 rfl) ?_
    refine lv_iload_n hx hb dX9_lostBy_17 rfl (lv_at hl 2 rfl) ?_
    refine lv_icmp_gt (tgt := 62) hx hb dX9_lostBy_18 (by decide) (fun c18 => ?_) (fun c18 => ?_)
    · have h := ip h c18
      refine lv_iload_n hx hb dX9_lostBy_62 rfl (lv_at hl 3 rfl) ?_
      obtain rfl := Option.some.inj h
      exact hR _ _ _ _ _ Z dX9_lostBy_63 rfl
    · have h := im h c18
      refine lv_iload hx hb dX9_lostBy_21 (lv_at hl 4 rfl) ?_
      refine lv_bipush (v := 100) hx hb dX9_lostBy_23 (by decide) ?_
      refine lv_icmp_ge (tgt := 62) hx hb dX9_lostBy_25 (by decide) (fun c25 => ?_) (fun c25 => ?_)
      · have h := ip h c25
        refine lv_iload_n hx hb dX9_lostBy_62 rfl (lv_at hl 3 rfl) ?_
        obtain rfl := Option.some.inj h
        exact hR _ _ _ _ _ Z dX9_lostBy_63 rfl
      · have h := im h c25
        refine lv_iload_n hx hb dX9_lostBy_28 rfl (lv_at hl 3 rfl) ?_
        refine lv_aload_n hx hb dX9_lostBy_29 rfl (lv_at hl 0 rfl) ?_
        refine rg_X9_24 C Z dX9_lostBy_30 ?_
        refine lv_iload_n hx hb dX9_lostBy_33 rfl (lv_at hl 1 rfl) ?_
        refine lv_bipush (v := 100) hx hb dX9_lostBy_34 (by decide) ?_
        refine lv_imul hx hb dX9_lostBy_36 ?_
        refine lv_iload hx hb dX9_lostBy_37 (lv_at hl 4 rfl) ?_
        refine lv_iadd hx hb dX9_lostBy_39 ?_
        obtain ⟨v9, hv9, h⟩ := ob h
        refine g_zald C Z iaC62 hv9 dX9_lostBy_40 ?_
        refine lv_if_eq (tgt := 53) hx hb dX9_lostBy_41 (by decide) (fun c41 => ?_) (fun c41 => ?_)
        · have h := ip h c41
          refine lv_iconst (v := 0) hx hb dX9_lostBy_53 (by decide) ?_
          exact w_X9_lostBy_54 C hR ih Z (lv_sub hl [0, 1, 2, 4] rfl) h
        · have h := im h c41
          refine lv_aload_n hx hb dX9_lostBy_44 rfl (lv_at hl 0 rfl) ?_
          refine rg_X9_21 C Z dX9_lostBy_45 ?_
          refine lv_iload_n hx hb dX9_lostBy_48 rfl (lv_at hl 1 rfl) ?_
          obtain ⟨v10, hv10, h⟩ := ob h
          refine g_iald C Z iaC61 hv10 dX9_lostBy_49 ?_
          refine lv_goto (tgt := 54) hx hb dX9_lostBy_50 (by decide) ?_
          exact w_X9_lostBy_54 C hR ih Z (lv_sub hl [0, 1, 2, 4] rfl) h
set_option maxRecDepth 20000 in
theorem w_X9_lostBy_0 {p : Program} {l : Launch} {e : Env} {s : State} {m : MethodId} {args : Array Value} {below : List Frame} {meth : Method} {c : Code} {Q : State → Prop} {D : va_G} {kc : Nat → ClassId} {ad : Nat → Nat} {A : Nat → Prop} {adK adV : Nat → Nat} (C : Cx (eC adK adV) p s m args c cX9_lostBy 5 RX9 D kc A) {R : Int32} {x1 : Int32} {x2 : Int32} {σ : St} (hR : RTi 0 0 p l e r_X9_lostBy s m args below meth c cX9_lostBy tC kc ad D A Q .int R σ) {H : Heap} {locs : List Loc} {ls : Array Slot} (Z : Dy tC kc ad D A s.heap σ H locs) (hl : lv_has ls 5 [(0, .ref (ad 8)), (1, .int x1), (2, .int x2)]) (h : f_X9_lostBy x1 x2 σ = some R) : W p l e r_X9_lostBy s m args below meth c H locs 0 0 Q (F0 m 0 ls []) := by
  have hx := C.1.1
  have hb := C.1.2.1
  unfold f_X9_lostBy at h
  refine lv_aload_n hx hb dX9_lostBy_0 rfl (lv_at hl 0 rfl) ?_
  refine lv_iload_n hx hb dX9_lostBy_1 rfl (lv_at hl 1 rfl) ?_
  refine g_callVi (eC_ok adK adV) C Z (k_X9_has x1 σ) lk_X9_39 (by decide) rfl rfl hl (by decide) rfl (Nat.le_of_ble_eq_true rfl) (rest := []) rfl dX9_lostBy_2 (fun H locs Z => ?_)
  refine lv_if_ne (tgt := 10) hx hb dX9_lostBy_5 (by decide) (fun c5 => ?_) (fun c5 => ?_)
  · have h := im h c5
    refine lv_iconst (v := 0) hx hb dX9_lostBy_10 (by decide) ?_
    refine lv_istore_n (lv' := [(3, .int 0), (0, .ref (ad 8)), (1, .int x1), (2, .int x2)]) hx hb dX9_lostBy_11 rfl hl (by decide) rfl (fun ls hl => ?_)
    refine lv_iconst (v := 0) hx hb dX9_lostBy_12 (by decide) ?_
    refine lv_istore (lv' := [(4, .int 0), (3, .int 0), (0, .ref (ad 8)), (1, .int x1), (2, .int x2)]) hx hb dX9_lostBy_13 hl (by decide) rfl (fun ls hl => ?_)
    exact w_X9_lostBy_15 C hR _ _ _ _ _ _ Z (lv_sub hl [2, 3, 4, 1, 0] rfl) h
  · have h := ip h c5
    refine lv_iconst (v := (-1)) hx hb dX9_lostBy_8 (by decide) ?_
    obtain rfl := Option.some.inj h
    exact hR _ _ _ _ _ Z dX9_lostBy_9 rfl
theorem k_X9_lostBy {l : Launch} {kc : Nat → ClassId} {ad : Nat → Nat} {D : va_G} {adK adV : Nat → Nat} {x1 : Int32} {x2 : Int32} {σ : St} {R : Int32} (h : f_X9_lostBy x1 x2 σ = some R) : KC (eC adK adV) tC kc ad D l yX9_lostBy (.code yX9_lostBy cX9_lostBy 5 (some .int)) r_X9_lostBy [.ref (ad 8), .int x1, .int x2] (some (.int R)) σ σ := by
  refine g_enter (by decide) (Nat.le_of_ble_eq_true rfl) ?_
  intro p e s m args below meth c A hA C hr hlocks Z ls hl
  have hl : lv_has ls 5 [(0, .ref (ad 8)), (1, .int x1), (2, .int x2)] := hl
  exact w_X9_lostBy_0 C (g_RTi C.1.1 C.1.2.1 hr hlocks hA)  Z hl h
def r_X9_weekOf : Room := { frames := 1, cells := 0, slots := 0, locals := 21 }
set_option maxRecDepth 20000 in
theorem w_X9_weekOf_63 {p : Program} {l : Launch} {e : Env} {s : State} {m : MethodId} {args : Array Value} {below : List Frame} {meth : Method} {c : Code} {Q : State → Prop} {D : va_G} {kc : Nat → ClassId} {ad : Nat → Nat} {A : Nat → Prop} {adK adV : Nat → Nat} (C : Cx (eC adK adV) p s m args c cX9_weekOf 4 RX9 D kc A) {R : Int32} {x1 : Int32} {x2 : Int32} {x3 : Int32} {σ : St} (hR : RTi 0 0 p l e r_X9_weekOf s m args below meth c cX9_weekOf tC kc ad D A Q .int R σ) {k14 : Int32 → Int32 → Option (Int32)} (hk14 : ∀ (x2 : Int32) (x3 : Int32) (H : Heap) (locs : List Loc) (ls : Array Slot), Dy tC kc ad D A s.heap σ H locs → lv_has ls 4 [(0, .ref (ad 8)), (1, .int x1), (2, .int x2), (3, .int x3)] → k14 x2 x3 = some R → W p l e r_X9_weekOf s m args below meth c H locs 0 0 Q (F0 m 14 ls [])) {H : Heap} {locs : List Loc} {ls : Array Slot} (Z : Dy tC kc ad D A s.heap σ H locs) (hl : lv_has ls 4 [(0, .ref (ad 8)), (1, .int x1), (2, .int x2), (3, .int x3)]) (h : f_X9_weekOf_63 x1 x2 x3 σ k14 = some R) : W p l e r_X9_weekOf s m args below meth c H locs 0 0 Q (F0 m 63 ls []) := by
  have hx := C.1.1
  have hb := C.1.2.1
  unfold f_X9_weekOf_63 at h
  obtain ⟨v15, ev15, h⟩ := lb h
  refine lv_iinc (v := v15) (lv' := [(3, .int v15), (0, .ref (ad 8)), (1, .int x1), (2, .int x2)]) hx hb dX9_weekOf_63 hl (k := 3) rfl (by rw [ev15]; rfl) (by decide) rfl (fun ls hl => ?_)
  refine lv_goto (tgt := 14) hx hb dX9_weekOf_66 (by decide) ?_
  exact hk14 _ _ _ _ _ Z (lv_sub hl [1, 2, 3, 0] rfl) h
set_option maxRecDepth 20000 in
theorem w_X9_weekOf_45 {p : Program} {l : Launch} {e : Env} {s : State} {m : MethodId} {args : Array Value} {below : List Frame} {meth : Method} {c : Code} {Q : State → Prop} {D : va_G} {kc : Nat → ClassId} {ad : Nat → Nat} {A : Nat → Prop} {adK adV : Nat → Nat} (C : Cx (eC adK adV) p s m args c cX9_weekOf 4 RX9 D kc A) {R : Int32} {x1 : Int32} {x3 : Int32} {y0 : Int32} {y1 : Int32} {σ : St} (hR : RTi 0 0 p l e r_X9_weekOf s m args below meth c cX9_weekOf tC kc ad D A Q .int R σ) {k14 : Int32 → Int32 → Option (Int32)} (hk14 : ∀ (x2 : Int32) (x3 : Int32) (H : Heap) (locs : List Loc) (ls : Array Slot), Dy tC kc ad D A s.heap σ H locs → lv_has ls 4 [(0, .ref (ad 8)), (1, .int x1), (2, .int x2), (3, .int x3)] → k14 x2 x3 = some R → W p l e r_X9_weekOf s m args below meth c H locs 0 0 Q (F0 m 14 ls [])) {H : Heap} {locs : List Loc} {ls : Array Slot} (Z : Dy tC kc ad D A s.heap σ H locs) (hl : lv_has ls 4 [(0, .ref (ad 8)), (1, .int x1), (3, .int x3)]) (h : f_X9_weekOf_45 x1 x3 y0 y1 σ k14 = some R) : W p l e r_X9_weekOf s m args below meth c H locs 0 0 Q (F0 m 45 ls [.int y1, .int y0]) := by
  have hx := C.1.1
  have hb := C.1.2.1
  unfold f_X9_weekOf_45 at h
  refine lv_iadd hx hb dX9_weekOf_45 ?_
  obtain ⟨v13, ev13, h⟩ := lb h
  refine tn_i ev13 ?_
  refine lv_istore_n (lv' := [(2, .int v13), (0, .ref (ad 8)), (1, .int x1), (3, .int x3)]) hx hb dX9_weekOf_46 rfl hl (by decide) rfl (fun ls hl => ?_)
  refine lv_iload_n hx hb dX9_weekOf_47 rfl (lv_at hl 0 rfl) ?_
  refine lv_if_le (tgt := 63) hx hb dX9_weekOf_48 (by decide) (fun c48 => ?_) (fun c48 => ?_)
  · have h := ip h c48
    exact w_X9_weekOf_63 C hR hk14 Z (lv_sub hl [1, 2, 0, 3] rfl) h
  · have h := im h c48
    refine lv_iload_n hx hb dX9_weekOf_51 rfl (lv_at hl 0 rfl) ?_
    refine lv_aload_n hx hb dX9_weekOf_52 rfl (lv_at hl 1 rfl) ?_
    refine rg_X9_18 C Z dX9_weekOf_53 ?_
    refine lv_iload_n hx hb dX9_weekOf_56 rfl (lv_at hl 2 rfl) ?_
    obtain ⟨v14, hv14, h⟩ := ob h
    refine g_iald C Z iaC60 hv14 dX9_weekOf_57 ?_
    refine lv_icmp_lt (tgt := 63) hx hb dX9_weekOf_58 (by decide) (fun c58 => ?_) (fun c58 => ?_)
    · have h := ip h c58
      exact w_X9_weekOf_63 C hR hk14 Z (lv_sub hl [1, 2, 0, 3] rfl) h
    · have h := im h c58
      refine lv_iload_n hx hb dX9_weekOf_61 rfl (lv_at hl 3 rfl) ?_
      obtain rfl := Option.some.inj h
      exact hR _ _ _ _ _ Z dX9_weekOf_62 rfl
set_option maxRecDepth 20000 in
theorem w_X9_weekOf_14 {p : Program} {l : Launch} {e : Env} {s : State} {m : MethodId} {args : Array Value} {below : List Frame} {meth : Method} {c : Code} {Q : State → Prop} {D : va_G} {kc : Nat → ClassId} {ad : Nat → Nat} {A : Nat → Prop} {adK adV : Nat → Nat} (C : Cx (eC adK adV) p s m args c cX9_weekOf 4 RX9 D kc A) {R : Int32} {x1 : Int32} {σ : St} (hR : RTi 0 0 p l e r_X9_weekOf s m args below meth c cX9_weekOf tC kc ad D A Q .int R σ) : ∀ (n : Nat) (x2 : Int32) (x3 : Int32) (H : Heap) (locs : List Loc) (ls : Array Slot), Dy tC kc ad D A s.heap σ H locs → lv_has ls 4 [(0, .ref (ad 8)), (1, .int x1), (2, .int x2), (3, .int x3)] → f_X9_weekOf_14 x1 σ n x2 x3 = some R → W p l e r_X9_weekOf s m args below meth c H locs 0 0 Q (F0 m 14 ls []) := by
  have hx := C.1.1
  have hb := C.1.2.1
  intro n
  induction n with
  | zero =>
    intro x2 x3 H locs ls Z hl h
    exact absurd (show none = some R from h) (by simp)
  | succ n ih =>
    intro x2 x3 H locs ls Z hl h
    rw [f_X9_weekOf_14] at h
    refine lv_iload_n hx hb dX9_weekOf_14 rfl (lv_at hl 3 rfl) ?_
    refine lv_bipush (v := 100) hx hb dX9_weekOf_15 (by decide) ?_
    refine lv_icmp_ge (tgt := 69) hx hb dX9_weekOf_17 (by decide) (fun c17 => ?_) (fun c17 => ?_)
    · have h := ip h c17
      refine lv_bipush (v := (-2)) hx hb dX9_weekOf_69 (by decide) ?_
      obtain rfl := Option.some.inj h
      exact hR _ _ _ _ _ Z dX9_weekOf_71 rfl
    · have h := im h c17
      refine lv_iload_n hx hb dX9_weekOf_20 rfl (lv_at hl 2 rfl) ?_
      refine lv_aload_n hx hb dX9_weekOf_21 rfl (lv_at hl 0 rfl) ?_
      refine rg_X9_24 C Z dX9_weekOf_22 ?_
      refine lv_iload_n hx hb dX9_weekOf_25 rfl (lv_at hl 1 rfl) ?_
      refine lv_bipush (v := 100) hx hb dX9_weekOf_26 (by decide) ?_
      refine lv_imul hx hb dX9_weekOf_28 ?_
      refine lv_iload_n hx hb dX9_weekOf_29 rfl (lv_at hl 3 rfl) ?_
      refine lv_iadd hx hb dX9_weekOf_30 ?_
      obtain ⟨v11, hv11, h⟩ := ob h
      refine g_zald C Z iaC62 hv11 dX9_weekOf_31 ?_
      refine lv_if_eq (tgt := 44) hx hb dX9_weekOf_32 (by decide) (fun c32 => ?_) (fun c32 => ?_)
      · have h := ip h c32
        refine lv_iconst (v := 0) hx hb dX9_weekOf_44 (by decide) ?_
        exact w_X9_weekOf_45 C hR ih Z (lv_sub hl [0, 1, 3] rfl) h
      · have h := im h c32
        refine lv_aload_n hx hb dX9_weekOf_35 rfl (lv_at hl 0 rfl) ?_
        refine rg_X9_21 C Z dX9_weekOf_36 ?_
        refine lv_iload_n hx hb dX9_weekOf_39 rfl (lv_at hl 1 rfl) ?_
        obtain ⟨v12, hv12, h⟩ := ob h
        refine g_iald C Z iaC61 hv12 dX9_weekOf_40 ?_
        refine lv_goto (tgt := 45) hx hb dX9_weekOf_41 (by decide) ?_
        exact w_X9_weekOf_45 C hR ih Z (lv_sub hl [0, 1, 3] rfl) h
set_option maxRecDepth 20000 in
theorem w_X9_weekOf_0 {p : Program} {l : Launch} {e : Env} {s : State} {m : MethodId} {args : Array Value} {below : List Frame} {meth : Method} {c : Code} {Q : State → Prop} {D : va_G} {kc : Nat → ClassId} {ad : Nat → Nat} {A : Nat → Prop} {adK adV : Nat → Nat} (C : Cx (eC adK adV) p s m args c cX9_weekOf 4 RX9 D kc A) {R : Int32} {x1 : Int32} {σ : St} (hR : RTi 0 0 p l e r_X9_weekOf s m args below meth c cX9_weekOf tC kc ad D A Q .int R σ) {H : Heap} {locs : List Loc} {ls : Array Slot} (Z : Dy tC kc ad D A s.heap σ H locs) (hl : lv_has ls 4 [(0, .ref (ad 8)), (1, .int x1)]) (h : f_X9_weekOf x1 σ = some R) : W p l e r_X9_weekOf s m args below meth c H locs 0 0 Q (F0 m 0 ls []) := by
  have hx := C.1.1
  have hb := C.1.2.1
  unfold f_X9_weekOf at h
  refine lv_aload_n hx hb dX9_weekOf_0 rfl (lv_at hl 0 rfl) ?_
  refine lv_iload_n hx hb dX9_weekOf_1 rfl (lv_at hl 1 rfl) ?_
  refine g_callVi (eC_ok adK adV) C Z (k_X9_has x1 σ) lk_X9_39 (by decide) rfl rfl hl (by decide) rfl (Nat.le_of_ble_eq_true rfl) (rest := []) rfl dX9_weekOf_2 (fun H locs Z => ?_)
  refine lv_if_ne (tgt := 10) hx hb dX9_weekOf_5 (by decide) (fun c5 => ?_) (fun c5 => ?_)
  · have h := im h c5
    refine lv_iconst (v := 0) hx hb dX9_weekOf_10 (by decide) ?_
    refine lv_istore_n (lv' := [(2, .int 0), (0, .ref (ad 8)), (1, .int x1)]) hx hb dX9_weekOf_11 rfl hl (by decide) rfl (fun ls hl => ?_)
    refine lv_iconst (v := 0) hx hb dX9_weekOf_12 (by decide) ?_
    refine lv_istore_n (lv' := [(3, .int 0), (2, .int 0), (0, .ref (ad 8)), (1, .int x1)]) hx hb dX9_weekOf_13 rfl hl (by decide) rfl (fun ls hl => ?_)
    exact w_X9_weekOf_14 C hR _ _ _ _ _ _ Z (lv_sub hl [2, 3, 1, 0] rfl) h
  · have h := ip h c5
    refine lv_iconst (v := (-1)) hx hb dX9_weekOf_8 (by decide) ?_
    obtain rfl := Option.some.inj h
    exact hR _ _ _ _ _ Z dX9_weekOf_9 rfl
theorem k_X9_weekOf {l : Launch} {kc : Nat → ClassId} {ad : Nat → Nat} {D : va_G} {adK adV : Nat → Nat} {x1 : Int32} {σ : St} {R : Int32} (h : f_X9_weekOf x1 σ = some R) : KC (eC adK adV) tC kc ad D l yX9_weekOf (.code yX9_weekOf cX9_weekOf 4 (some .int)) r_X9_weekOf [.ref (ad 8), .int x1] (some (.int R)) σ σ := by
  refine g_enter (by decide) (Nat.le_of_ble_eq_true rfl) ?_
  intro p e s m args below meth c A hA C hr hlocks Z ls hl
  have hl : lv_has ls 4 [(0, .ref (ad 8)), (1, .int x1)] := hl
  exact w_X9_weekOf_0 C (g_RTi C.1.1 C.1.2.1 hr hlocks hA)  Z hl h
def r_X9_isEnough : Room := { frames := 2, cells := 0, slots := 0, locals := 44 }
set_option maxRecDepth 20000 in
theorem w_X9_isEnough_73 {p : Program} {l : Launch} {e : Env} {s : State} {m : MethodId} {args : Array Value} {below : List Frame} {meth : Method} {c : Code} {Q : State → Prop} {D : va_G} {kc : Nat → ClassId} {ad : Nat → Nat} {A : Nat → Prop} {adK adV : Nat → Nat} (C : Cx (eC adK adV) p s m args c cX9_isEnough 7 RX9 D kc A) {R : Int32} {x1 : Int32} {x2 : Int32} {x3 : Int32} {x4 : Int32} {x5 : Int32} {σ : St} (hR : RTi 0 0 p l e r_X9_isEnough s m args below meth c cX9_isEnough tC kc ad D A Q .boolean R σ) {k8 : Int32 → Int32 → Int32 → Option (Int32)} (hk8 : ∀ (x3 : Int32) (x4 : Int32) (x5 : Int32) (H : Heap) (locs : List Loc) (ls : Array Slot), Dy tC kc ad D A s.heap σ H locs → lv_has ls 7 [(0, .ref (ad 8)), (1, .int x1), (2, .int x2), (3, .int x3), (4, .int x4), (5, .int x5)] → k8 x3 x4 x5 = some R → W p l e r_X9_isEnough s m args below meth c H locs 0 0 Q (F0 m 8 ls [])) {H : Heap} {locs : List Loc} {ls : Array Slot} (Z : Dy tC kc ad D A s.heap σ H locs) (hl : lv_has ls 7 [(0, .ref (ad 8)), (1, .int x1), (2, .int x2), (3, .int x3), (4, .int x4), (5, .int x5)]) (h : f_X9_isEnough_73 x1 x2 x3 x4 x5 σ k8 = some R) : W p l e r_X9_isEnough s m args below meth c H locs 0 0 Q (F0 m 73 ls []) := by
  have hx := C.1.1
  have hb := C.1.2.1
  unfold f_X9_isEnough_73 at h
  obtain ⟨v21, ev21, h⟩ := lb h
  refine lv_iinc (v := v21) (lv' := [(5, .int v21), (0, .ref (ad 8)), (1, .int x1), (2, .int x2), (3, .int x3), (4, .int x4)]) hx hb dX9_isEnough_73 hl (k := 5) rfl (by rw [ev21]; rfl) (by decide) rfl (fun ls hl => ?_)
  refine lv_goto (tgt := 8) hx hb dX9_isEnough_76 (by decide) ?_
  exact hk8 _ _ _ _ _ _ Z (lv_sub hl [1, 2, 3, 4, 5, 0] rfl) h
set_option maxRecDepth 20000 in
theorem w_X9_isEnough_70 {p : Program} {l : Launch} {e : Env} {s : State} {m : MethodId} {args : Array Value} {below : List Frame} {meth : Method} {c : Code} {Q : State → Prop} {D : va_G} {kc : Nat → ClassId} {ad : Nat → Nat} {A : Nat → Prop} {adK adV : Nat → Nat} (C : Cx (eC adK adV) p s m args c cX9_isEnough 7 RX9 D kc A) {R : Int32} {x1 : Int32} {x2 : Int32} {x3 : Int32} {x5 : Int32} {y0 : Int32} {y1 : Int32} {σ : St} (hR : RTi 0 0 p l e r_X9_isEnough s m args below meth c cX9_isEnough tC kc ad D A Q .boolean R σ) {k8 : Int32 → Int32 → Int32 → Option (Int32)} (hk8 : ∀ (x3 : Int32) (x4 : Int32) (x5 : Int32) (H : Heap) (locs : List Loc) (ls : Array Slot), Dy tC kc ad D A s.heap σ H locs → lv_has ls 7 [(0, .ref (ad 8)), (1, .int x1), (2, .int x2), (3, .int x3), (4, .int x4), (5, .int x5)] → k8 x3 x4 x5 = some R → W p l e r_X9_isEnough s m args below meth c H locs 0 0 Q (F0 m 8 ls [])) {H : Heap} {locs : List Loc} {ls : Array Slot} (Z : Dy tC kc ad D A s.heap σ H locs) (hl : lv_has ls 7 [(0, .ref (ad 8)), (1, .int x1), (2, .int x2), (3, .int x3), (5, .int x5)]) (h : f_X9_isEnough_70 x1 x2 x3 x5 y0 y1 σ k8 = some R) : W p l e r_X9_isEnough s m args below meth c H locs 0 0 Q (F0 m 70 ls [.int y1, .int y0]) := by
  have hx := C.1.1
  have hb := C.1.2.1
  unfold f_X9_isEnough_70 at h
  refine lv_iadd hx hb dX9_isEnough_70 ?_
  obtain ⟨v20, ev20, h⟩ := lb h
  refine tn_i ev20 ?_
  refine lv_istore (lv' := [(4, .int v20), (0, .ref (ad 8)), (1, .int x1), (2, .int x2), (3, .int x3), (5, .int x5)]) hx hb dX9_isEnough_71 hl (by decide) rfl (fun ls hl => ?_)
  exact w_X9_isEnough_73 C hR hk8 Z (lv_sub hl [1, 2, 3, 4, 0, 5] rfl) h
set_option maxRecDepth 20000 in
theorem w_X9_isEnough_69 {p : Program} {l : Launch} {e : Env} {s : State} {m : MethodId} {args : Array Value} {below : List Frame} {meth : Method} {c : Code} {Q : State → Prop} {D : va_G} {kc : Nat → ClassId} {ad : Nat → Nat} {A : Nat → Prop} {adK adV : Nat → Nat} (C : Cx (eC adK adV) p s m args c cX9_isEnough 7 RX9 D kc A) {R : Int32} {x1 : Int32} {x2 : Int32} {x3 : Int32} {x5 : Int32} {y0 : Int32} {σ : St} (hR : RTi 0 0 p l e r_X9_isEnough s m args below meth c cX9_isEnough tC kc ad D A Q .boolean R σ) {k8 : Int32 → Int32 → Int32 → Option (Int32)} (hk8 : ∀ (x3 : Int32) (x4 : Int32) (x5 : Int32) (H : Heap) (locs : List Loc) (ls : Array Slot), Dy tC kc ad D A s.heap σ H locs → lv_has ls 7 [(0, .ref (ad 8)), (1, .int x1), (2, .int x2), (3, .int x3), (4, .int x4), (5, .int x5)] → k8 x3 x4 x5 = some R → W p l e r_X9_isEnough s m args below meth c H locs 0 0 Q (F0 m 8 ls [])) {H : Heap} {locs : List Loc} {ls : Array Slot} (Z : Dy tC kc ad D A s.heap σ H locs) (hl : lv_has ls 7 [(0, .ref (ad 8)), (1, .int x1), (2, .int x2), (3, .int x3), (5, .int x5)]) (h : f_X9_isEnough_69 x1 x2 x3 x5 y0 σ k8 = some R) : W p l e r_X9_isEnough s m args below meth c H locs 0 0 Q (F0 m 69 ls [.int y0]) := by
  have hx := C.1.1
  have hb := C.1.2.1
  unfold f_X9_isEnough_69 at h
  refine lv_iconst (v := 0) hx hb dX9_isEnough_69 (by decide) ?_
  exact w_X9_isEnough_70 C hR hk8 Z (lv_sub hl [0, 1, 2, 3, 4] rfl) h
set_option maxRecDepth 20000 in
theorem w_X9_isEnough_79 {p : Program} {l : Launch} {e : Env} {s : State} {m : MethodId} {args : Array Value} {below : List Frame} {meth : Method} {c : Code} {Q : State → Prop} {D : va_G} {kc : Nat → ClassId} {ad : Nat → Nat} {A : Nat → Prop} {adK adV : Nat → Nat} (C : Cx (eC adK adV) p s m args c cX9_isEnough 7 RX9 D kc A) {R : Int32} {x3 : Int32} {x4 : Int32} {σ : St} (hR : RTi 0 0 p l e r_X9_isEnough s m args below meth c cX9_isEnough tC kc ad D A Q .boolean R σ) {H : Heap} {locs : List Loc} {ls : Array Slot} (Z : Dy tC kc ad D A s.heap σ H locs) (hl : lv_has ls 7 [(3, .int x3), (4, .int x4)]) (h : f_X9_isEnough_79 x3 x4 σ = some R) : W p l e r_X9_isEnough s m args below meth c H locs 0 0 Q (F0 m 79 ls []) := by
  have hx := C.1.1
  have hb := C.1.2.1
  unfold f_X9_isEnough_79 at h
  refine lv_iconst (v := 2) hx hb dX9_isEnough_79 (by decide) ?_
  refine lv_iload hx hb dX9_isEnough_80 (lv_at hl 1 rfl) ?_
  refine lv_imul hx hb dX9_isEnough_82 ?_
  refine lv_iload_n hx hb dX9_isEnough_83 rfl (lv_at hl 0 rfl) ?_
  obtain ⟨v22, ev22, h⟩ := lb h
  have hj : W p l e r_X9_isEnough s m args below meth c H locs 0 0 Q (F0 m 92 ls [.int v22]) := by
    obtain rfl := Option.some.inj h
    exact hR _ _ _ _ _ Z dX9_isEnough_92 (nar_b _)
  refine lv_icmp_le (tgt := 91) hx hb dX9_isEnough_84 (by decide) (fun c84 => ?_) (fun c84 => ?_)
  · rw [if_pos c84] at ev22
    refine lv_iconst (v := 0) hx hb dX9_isEnough_91 (by decide) ?_
    exact tn_i ev22 hj
  · rw [if_neg c84] at ev22
    refine lv_iconst (v := 1) hx hb dX9_isEnough_87 (by decide) ?_
    refine lv_goto (tgt := 92) hx hb dX9_isEnough_88 (by decide) ?_
    exact tn_i ev22 hj
set_option maxRecDepth 20000 in
theorem w_X9_isEnough_8 {p : Program} {l : Launch} {e : Env} {s : State} {m : MethodId} {args : Array Value} {below : List Frame} {meth : Method} {c : Code} {Q : State → Prop} {D : va_G} {kc : Nat → ClassId} {ad : Nat → Nat} {A : Nat → Prop} {adK adV : Nat → Nat} (C : Cx (eC adK adV) p s m args c cX9_isEnough 7 RX9 D kc A) {R : Int32} {x1 : Int32} {x2 : Int32} {σ : St} (hR : RTi 0 0 p l e r_X9_isEnough s m args below meth c cX9_isEnough tC kc ad D A Q .boolean R σ) : ∀ (n : Nat) (x3 : Int32) (x4 : Int32) (x5 : Int32) (H : Heap) (locs : List Loc) (ls : Array Slot), Dy tC kc ad D A s.heap σ H locs → lv_has ls 7 [(0, .ref (ad 8)), (1, .int x1), (2, .int x2), (3, .int x3), (4, .int x4), (5, .int x5)] → f_X9_isEnough_8 x1 x2 σ n x3 x4 x5 = some R → W p l e r_X9_isEnough s m args below meth c H locs 0 0 Q (F0 m 8 ls []) := by
  have hx := C.1.1
  have hb := C.1.2.1
  intro n
  induction n with
  | zero =>
    intro x3 x4 x5 H locs ls Z hl h
    exact absurd (show none = some R from h) (by simp)
  | succ n ih =>
    intro x3 x4 x5 H locs ls Z hl h
    rw [f_X9_isEnough_8] at h
    refine lv_iload hx hb dX9_isEnough_8 (lv_at hl 5 rfl) ?_
    refine lv_aload_n hx hb dX9_isEnough_10 rfl (lv_at hl 0 rfl) ?_
    refine rg_X9_32 C Z dX9_isEnough_11 ?_
    refine lv_icmp_ge (tgt := 79) hx hb dX9_isEnough_14 (by decide) (fun c14 => ?_) (fun c14 => ?_)
    · have h := ip h c14
      exact w_X9_isEnough_79 C hR Z (lv_sub hl [3, 4] rfl) h
    · have h := im h c14
      refine lv_aload_n hx hb dX9_isEnough_17 rfl (lv_at hl 0 rfl) ?_
      refine rg_X9_11 C Z dX9_isEnough_18 ?_
      refine lv_iload hx hb dX9_isEnough_21 (lv_at hl 5 rfl) ?_
      obtain ⟨v15, hv15, h⟩ := ob h
      refine g_iald C Z iaC58 hv15 dX9_isEnough_23 ?_
      refine lv_iload_n hx hb dX9_isEnough_24 rfl (lv_at hl 1 rfl) ?_
      refine lv_icmp_ne (tgt := 73) hx hb dX9_isEnough_25 (by decide) (fun c25 => ?_) (fun c25 => ?_)
      · have h := im h c25
        exact w_X9_isEnough_73 C hR ih Z (lv_sub hl [0, 1, 2, 3, 4, 5] rfl) h
      · have h := ip h c25
        refine lv_aload_n hx hb dX9_isEnough_28 rfl (lv_at hl 0 rfl) ?_
        refine lv_iload hx hb dX9_isEnough_29 (lv_at hl 5 rfl) ?_
        obtain ⟨v16, hv16, h⟩ := ob h
        refine g_callVi (eC_ok adK adV) C Z (k_X9_weekOf hv16) lk_X9_46 (by decide) rfl rfl hl (by decide) rfl (Nat.le_of_ble_eq_true rfl) (rest := []) rfl dX9_isEnough_31 (fun H locs Z => ?_)
        refine lv_istore (lv' := [(6, .int v16), (0, .ref (ad 8)), (1, .int x1), (2, .int x2), (3, .int x3), (4, .int x4), (5, .int x5)]) hx hb dX9_isEnough_34 hl (by decide) rfl (fun ls hl => ?_)
        refine lv_iload_n hx hb dX9_isEnough_36 rfl (lv_at hl 4 rfl) ?_
        refine lv_aload_n hx hb dX9_isEnough_37 rfl (lv_at hl 1 rfl) ?_
        refine rg_X9_15 C Z dX9_isEnough_38 ?_
        refine lv_iload hx hb dX9_isEnough_41 (lv_at hl 6 rfl) ?_
        obtain ⟨v17, hv17, h⟩ := ob h
        refine g_iald C Z iaC59 hv17 dX9_isEnough_43 ?_
        refine lv_iadd hx hb dX9_isEnough_44 ?_
        obtain ⟨v18, ev18, h⟩ := lb h
        refine tn_i ev18 ?_
        refine lv_istore_n (lv' := [(3, .int v18), (6, .int v16), (0, .ref (ad 8)), (1, .int x1), (2, .int x2), (4, .int x4), (5, .int x5)]) hx hb dX9_isEnough_45 rfl hl (by decide) rfl (fun ls hl => ?_)
        refine lv_iload hx hb dX9_isEnough_46 (lv_at hl 5 rfl) ?_
        refine lv_iload hx hb dX9_isEnough_48 (lv_at hl 1 rfl) ?_
        refine lv_if_lt (tgt := 69) hx hb dX9_isEnough_50 (by decide) (fun c50 => ?_) (fun c50 => ?_)
        · have h := ip h c50
          exact w_X9_isEnough_69 C hR ih Z (lv_sub hl [2, 3, 4, 0, 6] rfl) h
        · have h := im h c50
          refine lv_iload hx hb dX9_isEnough_53 (lv_at hl 1 rfl) ?_
          refine lv_iload_n hx hb dX9_isEnough_55 rfl (lv_at hl 4 rfl) ?_
          refine lv_icmp_gt (tgt := 69) hx hb dX9_isEnough_56 (by decide) (fun c56 => ?_) (fun c56 => ?_)
          · have h := ip h c56
            exact w_X9_isEnough_69 C hR ih Z (lv_sub hl [2, 3, 4, 0, 6] rfl) h
          · have h := im h c56
            refine lv_aload_n hx hb dX9_isEnough_59 rfl (lv_at hl 2 rfl) ?_
            refine rg_X9_15 C Z dX9_isEnough_60 ?_
            refine lv_iload hx hb dX9_isEnough_63 (lv_at hl 6 rfl) ?_
            obtain ⟨v19, hv19, h⟩ := ob h
            refine g_iald C Z iaC59 hv19 dX9_isEnough_65 ?_
            refine lv_goto (tgt := 70) hx hb dX9_isEnough_66 (by decide) ?_
            exact w_X9_isEnough_70 C hR ih Z (lv_sub hl [2, 3, 4, 0, 6] rfl) h
set_option maxRecDepth 20000 in
theorem w_X9_isEnough_0 {p : Program} {l : Launch} {e : Env} {s : State} {m : MethodId} {args : Array Value} {below : List Frame} {meth : Method} {c : Code} {Q : State → Prop} {D : va_G} {kc : Nat → ClassId} {ad : Nat → Nat} {A : Nat → Prop} {adK adV : Nat → Nat} (C : Cx (eC adK adV) p s m args c cX9_isEnough 7 RX9 D kc A) {R : Int32} {x1 : Int32} {x2 : Int32} {σ : St} (hR : RTi 0 0 p l e r_X9_isEnough s m args below meth c cX9_isEnough tC kc ad D A Q .boolean R σ) {H : Heap} {locs : List Loc} {ls : Array Slot} (Z : Dy tC kc ad D A s.heap σ H locs) (hl : lv_has ls 7 [(0, .ref (ad 8)), (1, .int x1), (2, .int x2)]) (h : f_X9_isEnough x1 x2 σ = some R) : W p l e r_X9_isEnough s m args below meth c H locs 0 0 Q (F0 m 0 ls []) := by
  have hx := C.1.1
  have hb := C.1.2.1
  unfold f_X9_isEnough at h
  refine lv_iconst (v := 0) hx hb dX9_isEnough_0 (by decide) ?_
  refine lv_istore_n (lv' := [(3, .int 0), (0, .ref (ad 8)), (1, .int x1), (2, .int x2)]) hx hb dX9_isEnough_1 rfl hl (by decide) rfl (fun ls hl => ?_)
  refine lv_iconst (v := 0) hx hb dX9_isEnough_2 (by decide) ?_
  refine lv_istore (lv' := [(4, .int 0), (3, .int 0), (0, .ref (ad 8)), (1, .int x1), (2, .int x2)]) hx hb dX9_isEnough_3 hl (by decide) rfl (fun ls hl => ?_)
  refine lv_iconst (v := 0) hx hb dX9_isEnough_5 (by decide) ?_
  refine lv_istore (lv' := [(5, .int 0), (4, .int 0), (3, .int 0), (0, .ref (ad 8)), (1, .int x1), (2, .int x2)]) hx hb dX9_isEnough_6 hl (by decide) rfl (fun ls hl => ?_)
  exact w_X9_isEnough_8 C hR _ _ _ _ _ _ _ Z (lv_sub hl [3, 4, 5, 2, 1, 0] rfl) h
theorem k_X9_isEnough {l : Launch} {kc : Nat → ClassId} {ad : Nat → Nat} {D : va_G} {adK adV : Nat → Nat} {x1 : Int32} {x2 : Int32} {σ : St} {R : Int32} (h : f_X9_isEnough x1 x2 σ = some R) : KC (eC adK adV) tC kc ad D l yX9_isEnough (.code yX9_isEnough cX9_isEnough 7 (some .boolean)) r_X9_isEnough [.ref (ad 8), .int x1, .int x2] (some (.int R)) σ σ := by
  refine g_enter (by decide) (Nat.le_of_ble_eq_true rfl) ?_
  intro p e s m args below meth c A hA C hr hlocks Z ls hl
  have hl : lv_has ls 7 [(0, .ref (ad 8)), (1, .int x1), (2, .int x2)] := hl
  exact w_X9_isEnough_0 C (g_RTi C.1.1 C.1.2.1 hr hlocks hA)  Z hl h
def r_X9_weekOfSide : Room := { frames := 3, cells := 0, slots := 0, locals := 70 }
set_option maxRecDepth 20000 in
theorem w_X9_weekOfSide_65 {p : Program} {l : Launch} {e : Env} {s : State} {m : MethodId} {args : Array Value} {below : List Frame} {meth : Method} {c : Code} {Q : State → Prop} {D : va_G} {kc : Nat → ClassId} {ad : Nat → Nat} {A : Nat → Prop} {adK adV : Nat → Nat} (C : Cx (eC adK adV) p s m args c cX9_weekOfSide 5 RX9 D kc A) {R : Int32} {x1 : Int32} {x2 : Int32} {x3 : Int32} {σ : St} (hR : RTi 0 0 p l e r_X9_weekOfSide s m args below meth c cX9_weekOfSide tC kc ad D A Q .int R σ) {k5 : Int32 → Int32 → Option (Int32)} (hk5 : ∀ (x2 : Int32) (x3 : Int32) (H : Heap) (locs : List Loc) (ls : Array Slot), Dy tC kc ad D A s.heap σ H locs → lv_has ls 5 [(0, .ref (ad 8)), (1, .int x1), (2, .int x2), (3, .int x3)] → k5 x2 x3 = some R → W p l e r_X9_weekOfSide s m args below meth c H locs 0 0 Q (F0 m 5 ls [])) {H : Heap} {locs : List Loc} {ls : Array Slot} (Z : Dy tC kc ad D A s.heap σ H locs) (hl : lv_has ls 5 [(0, .ref (ad 8)), (1, .int x1), (2, .int x2), (3, .int x3)]) (h : f_X9_weekOfSide_65 x1 x2 x3 σ k5 = some R) : W p l e r_X9_weekOfSide s m args below meth c H locs 0 0 Q (F0 m 65 ls []) := by
  have hx := C.1.1
  have hb := C.1.2.1
  unfold f_X9_weekOfSide_65 at h
  obtain ⟨v12, ev12, h⟩ := lb h
  refine lv_iinc (v := v12) (lv' := [(3, .int v12), (0, .ref (ad 8)), (1, .int x1), (2, .int x2)]) hx hb dX9_weekOfSide_65 hl (k := 3) rfl (by rw [ev12]; rfl) (by decide) rfl (fun ls hl => ?_)
  refine lv_goto (tgt := 5) hx hb dX9_weekOfSide_68 (by decide) ?_
  exact hk5 _ _ _ _ _ Z (lv_sub hl [1, 2, 3, 0] rfl) h
set_option maxRecDepth 20000 in
theorem w_X9_weekOfSide_52 {p : Program} {l : Launch} {e : Env} {s : State} {m : MethodId} {args : Array Value} {below : List Frame} {meth : Method} {c : Code} {Q : State → Prop} {D : va_G} {kc : Nat → ClassId} {ad : Nat → Nat} {A : Nat → Prop} {adK adV : Nat → Nat} (C : Cx (eC adK adV) p s m args c cX9_weekOfSide 5 RX9 D kc A) {R : Int32} {x1 : Int32} {x2 : Int32} {x3 : Int32} {x4 : Int32} {σ : St} (hR : RTi 0 0 p l e r_X9_weekOfSide s m args below meth c cX9_weekOfSide tC kc ad D A Q .int R σ) {k5 : Int32 → Int32 → Option (Int32)} (hk5 : ∀ (x2 : Int32) (x3 : Int32) (H : Heap) (locs : List Loc) (ls : Array Slot), Dy tC kc ad D A s.heap σ H locs → lv_has ls 5 [(0, .ref (ad 8)), (1, .int x1), (2, .int x2), (3, .int x3)] → k5 x2 x3 = some R → W p l e r_X9_weekOfSide s m args below meth c H locs 0 0 Q (F0 m 5 ls [])) {H : Heap} {locs : List Loc} {ls : Array Slot} (Z : Dy tC kc ad D A s.heap σ H locs) (hl : lv_has ls 5 [(0, .ref (ad 8)), (1, .int x1), (2, .int x2), (3, .int x3), (4, .int x4)]) (h : f_X9_weekOfSide_52 x1 x2 x3 x4 σ k5 = some R) : W p l e r_X9_weekOfSide s m args below meth c H locs 0 0 Q (F0 m 52 ls []) := by
  have hx := C.1.1
  have hb := C.1.2.1
  unfold f_X9_weekOfSide_52 at h
  refine lv_aload_n hx hb dX9_weekOfSide_52 rfl (lv_at hl 0 rfl) ?_
  refine lv_iload_n hx hb dX9_weekOfSide_53 rfl (lv_at hl 1 rfl) ?_
  refine lv_iload hx hb dX9_weekOfSide_54 (lv_at hl 4 rfl) ?_
  obtain ⟨v11, hv11, h⟩ := ob h
  refine g_callVi (eC_ok adK adV) C Z (k_X9_isEnough hv11) lk_X9_50 (by decide) rfl rfl hl (by decide) rfl (Nat.le_of_ble_eq_true rfl) (rest := []) rfl dX9_weekOfSide_56 (fun H locs Z => ?_)
  refine lv_if_eq (tgt := 65) hx hb dX9_weekOfSide_59 (by decide) (fun c59 => ?_) (fun c59 => ?_)
  · have h := ip h c59
    exact w_X9_weekOfSide_65 C hR hk5 Z (lv_sub hl [0, 1, 2, 3] rfl) h
  · have h := im h c59
    refine lv_iload hx hb dX9_weekOfSide_62 (lv_at hl 4 rfl) ?_
    refine lv_istore_n (lv' := [(2, .int x4), (0, .ref (ad 8)), (1, .int x1), (3, .int x3), (4, .int x4)]) hx hb dX9_weekOfSide_64 rfl hl (by decide) rfl (fun ls hl => ?_)
    exact w_X9_weekOfSide_65 C hR hk5 Z (lv_sub hl [1, 2, 0, 3] rfl) h
set_option maxRecDepth 20000 in
theorem w_X9_weekOfSide_33 {p : Program} {l : Launch} {e : Env} {s : State} {m : MethodId} {args : Array Value} {below : List Frame} {meth : Method} {c : Code} {Q : State → Prop} {D : va_G} {kc : Nat → ClassId} {ad : Nat → Nat} {A : Nat → Prop} {adK adV : Nat → Nat} (C : Cx (eC adK adV) p s m args c cX9_weekOfSide 5 RX9 D kc A) {R : Int32} {x1 : Int32} {x2 : Int32} {x3 : Int32} {y0 : Int32} {σ : St} (hR : RTi 0 0 p l e r_X9_weekOfSide s m args below meth c cX9_weekOfSide tC kc ad D A Q .int R σ) {k5 : Int32 → Int32 → Option (Int32)} (hk5 : ∀ (x2 : Int32) (x3 : Int32) (H : Heap) (locs : List Loc) (ls : Array Slot), Dy tC kc ad D A s.heap σ H locs → lv_has ls 5 [(0, .ref (ad 8)), (1, .int x1), (2, .int x2), (3, .int x3)] → k5 x2 x3 = some R → W p l e r_X9_weekOfSide s m args below meth c H locs 0 0 Q (F0 m 5 ls [])) {H : Heap} {locs : List Loc} {ls : Array Slot} (Z : Dy tC kc ad D A s.heap σ H locs) (hl : lv_has ls 5 [(0, .ref (ad 8)), (1, .int x1), (2, .int x2), (3, .int x3)]) (h : f_X9_weekOfSide_33 x1 x2 x3 y0 σ k5 = some R) : W p l e r_X9_weekOfSide s m args below meth c H locs 0 0 Q (F0 m 33 ls [.int y0]) := by
  have hx := C.1.1
  have hb := C.1.2.1
  unfold f_X9_weekOfSide_33 at h
  refine lv_istore (lv' := [(4, .int y0), (0, .ref (ad 8)), (1, .int x1), (2, .int x2), (3, .int x3)]) hx hb dX9_weekOfSide_33 hl (by decide) rfl (fun ls hl => ?_)
  refine lv_iload hx hb dX9_weekOfSide_35 (lv_at hl 0 rfl) ?_
  refine lv_if_lt (tgt := 65) hx hb dX9_weekOfSide_37 (by decide) (fun c37 => ?_) (fun c37 => ?_)
  · have h := ip h c37
    exact w_X9_weekOfSide_65 C hR hk5 Z (lv_sub hl [1, 2, 3, 4] rfl) h
  · have h := im h c37
    refine lv_iload_n hx hb dX9_weekOfSide_40 rfl (lv_at hl 3 rfl) ?_
    refine lv_bipush (v := (-2)) hx hb dX9_weekOfSide_41 (by decide) ?_
    refine lv_icmp_eq (tgt := 52) hx hb dX9_weekOfSide_43 (by decide) (fun c43 => ?_) (fun c43 => ?_)
    · have h := ip h c43
      exact w_X9_weekOfSide_52 C hR hk5 Z (lv_sub hl [1, 2, 3, 4, 0] rfl) h
    · have h := im h c43
      refine lv_iload hx hb dX9_weekOfSide_46 (lv_at hl 0 rfl) ?_
      refine lv_iload_n hx hb dX9_weekOfSide_48 rfl (lv_at hl 3 rfl) ?_
      refine lv_icmp_ge (tgt := 65) hx hb dX9_weekOfSide_49 (by decide) (fun c49 => ?_) (fun c49 => ?_)
      · have h := ip h c49
        exact w_X9_weekOfSide_65 C hR hk5 Z (lv_sub hl [1, 2, 3, 4] rfl) h
      · have h := im h c49
        exact w_X9_weekOfSide_52 C hR hk5 Z (lv_sub hl [1, 2, 3, 4, 0] rfl) h
set_option maxRecDepth 20000 in
theorem w_X9_weekOfSide_5 {p : Program} {l : Launch} {e : Env} {s : State} {m : MethodId} {args : Array Value} {below : List Frame} {meth : Method} {c : Code} {Q : State → Prop} {D : va_G} {kc : Nat → ClassId} {ad : Nat → Nat} {A : Nat → Prop} {adK adV : Nat → Nat} (C : Cx (eC adK adV) p s m args c cX9_weekOfSide 5 RX9 D kc A) {R : Int32} {x1 : Int32} {σ : St} (hR : RTi 0 0 p l e r_X9_weekOfSide s m args below meth c cX9_weekOfSide tC kc ad D A Q .int R σ) : ∀ (n : Nat) (x2 : Int32) (x3 : Int32) (H : Heap) (locs : List Loc) (ls : Array Slot), Dy tC kc ad D A s.heap σ H locs → lv_has ls 5 [(0, .ref (ad 8)), (1, .int x1), (2, .int x2), (3, .int x3)] → f_X9_weekOfSide_5 x1 σ n x2 x3 = some R → W p l e r_X9_weekOfSide s m args below meth c H locs 0 0 Q (F0 m 5 ls []) := by
  have hx := C.1.1
  have hb := C.1.2.1
  intro n
  induction n with
  | zero =>
    intro x2 x3 H locs ls Z hl h
    exact absurd (show none = some R from h) (by simp)
  | succ n ih =>
    intro x2 x3 H locs ls Z hl h
    rw [f_X9_weekOfSide_5] at h
    refine lv_iload_n hx hb dX9_weekOfSide_5 rfl (lv_at hl 3 rfl) ?_
    refine lv_aload_n hx hb dX9_weekOfSide_6 rfl (lv_at hl 0 rfl) ?_
    refine rg_X9_32 C Z dX9_weekOfSide_7 ?_
    refine lv_icmp_ge (tgt := 71) hx hb dX9_weekOfSide_10 (by decide) (fun c10 => ?_) (fun c10 => ?_)
    · have h := ip h c10
      refine lv_iload_n hx hb dX9_weekOfSide_71 rfl (lv_at hl 2 rfl) ?_
      obtain rfl := Option.some.inj h
      exact hR _ _ _ _ _ Z dX9_weekOfSide_72 rfl
    · have h := im h c10
      refine lv_aload_n hx hb dX9_weekOfSide_13 rfl (lv_at hl 0 rfl) ?_
      refine rg_X9_11 C Z dX9_weekOfSide_14 ?_
      refine lv_iload_n hx hb dX9_weekOfSide_17 rfl (lv_at hl 3 rfl) ?_
      obtain ⟨v9, hv9, h⟩ := ob h
      refine g_iald C Z iaC58 hv9 dX9_weekOfSide_18 ?_
      refine lv_iload_n hx hb dX9_weekOfSide_19 rfl (lv_at hl 1 rfl) ?_
      refine lv_icmp_ne (tgt := 31) hx hb dX9_weekOfSide_20 (by decide) (fun c20 => ?_) (fun c20 => ?_)
      · have h := im h c20
        refine lv_bipush (v := (-2)) hx hb dX9_weekOfSide_31 (by decide) ?_
        exact w_X9_weekOfSide_33 C hR ih Z (lv_sub hl [0, 1, 2, 3] rfl) h
      · have h := ip h c20
        refine lv_aload_n hx hb dX9_weekOfSide_23 rfl (lv_at hl 0 rfl) ?_
        refine lv_iload_n hx hb dX9_weekOfSide_24 rfl (lv_at hl 3 rfl) ?_
        obtain ⟨v10, hv10, h⟩ := ob h
        refine g_callVi (eC_ok adK adV) C Z (k_X9_weekOf hv10) lk_X9_46 (by decide) rfl rfl hl (by decide) rfl (Nat.le_of_ble_eq_true rfl) (rest := []) rfl dX9_weekOfSide_25 (fun H locs Z => ?_)
        refine lv_goto (tgt := 33) hx hb dX9_weekOfSide_28 (by decide) ?_
        exact w_X9_weekOfSide_33 C hR ih Z (lv_sub hl [0, 1, 2, 3] rfl) h
set_option maxRecDepth 20000 in
theorem w_X9_weekOfSide_0 {p : Program} {l : Launch} {e : Env} {s : State} {m : MethodId} {args : Array Value} {below : List Frame} {meth : Method} {c : Code} {Q : State → Prop} {D : va_G} {kc : Nat → ClassId} {ad : Nat → Nat} {A : Nat → Prop} {adK adV : Nat → Nat} (C : Cx (eC adK adV) p s m args c cX9_weekOfSide 5 RX9 D kc A) {R : Int32} {x1 : Int32} {σ : St} (hR : RTi 0 0 p l e r_X9_weekOfSide s m args below meth c cX9_weekOfSide tC kc ad D A Q .int R σ) {H : Heap} {locs : List Loc} {ls : Array Slot} (Z : Dy tC kc ad D A s.heap σ H locs) (hl : lv_has ls 5 [(0, .ref (ad 8)), (1, .int x1)]) (h : f_X9_weekOfSide x1 σ = some R) : W p l e r_X9_weekOfSide s m args below meth c H locs 0 0 Q (F0 m 0 ls []) := by
  have hx := C.1.1
  have hb := C.1.2.1
  unfold f_X9_weekOfSide at h
  refine lv_bipush (v := (-2)) hx hb dX9_weekOfSide_0 (by decide) ?_
  refine lv_istore_n (lv' := [(2, .int (-2)), (0, .ref (ad 8)), (1, .int x1)]) hx hb dX9_weekOfSide_2 rfl hl (by decide) rfl (fun ls hl => ?_)
  refine lv_iconst (v := 0) hx hb dX9_weekOfSide_3 (by decide) ?_
  refine lv_istore_n (lv' := [(3, .int 0), (2, .int (-2)), (0, .ref (ad 8)), (1, .int x1)]) hx hb dX9_weekOfSide_4 rfl hl (by decide) rfl (fun ls hl => ?_)
  exact w_X9_weekOfSide_5 C hR _ _ _ _ _ _ Z (lv_sub hl [2, 3, 1, 0] rfl) h
theorem k_X9_weekOfSide {l : Launch} {kc : Nat → ClassId} {ad : Nat → Nat} {D : va_G} {adK adV : Nat → Nat} {x1 : Int32} {σ : St} {R : Int32} (h : f_X9_weekOfSide x1 σ = some R) : KC (eC adK adV) tC kc ad D l yX9_weekOfSide (.code yX9_weekOfSide cX9_weekOfSide 5 (some .int)) r_X9_weekOfSide [.ref (ad 8), .int x1] (some (.int R)) σ σ := by
  refine g_enter (by decide) (Nat.le_of_ble_eq_true rfl) ?_
  intro p e s m args below meth c A hA C hr hlocks Z ls hl
  have hl : lv_has ls 5 [(0, .ref (ad 8)), (1, .int x1)] := hl
  exact w_X9_weekOfSide_0 C (g_RTi C.1.1 C.1.2.1 hr hlocks hA)  Z hl h
def r_X10_isMinute : Room := { frames := 1, cells := 0, slots := 0, locals := 22 }
set_option maxRecDepth 20000 in
theorem w_X10_isMinute_0 {p : Program} {l : Launch} {e : Env} {s : State} {m : MethodId} {args : Array Value} {below : List Frame} {meth : Method} {c : Code} {Q : State → Prop} {D : va_G} {kc : Nat → ClassId} {ad : Nat → Nat} {A : Nat → Prop} {adK adV : Nat → Nat} (C : Cx (eC adK adV) p s m args c cX10_isMinute 1 RX10 D kc A) {R : Int32} {x0 : Int32} {σ : St} (hR : RTi 0 0 p l e r_X10_isMinute s m args below meth c cX10_isMinute tC kc ad D A Q .boolean R σ) {H : Heap} {locs : List Loc} {ls : Array Slot} (Z : Dy tC kc ad D A s.heap σ H locs) (hl : lv_has ls 1 [(0, .int x0)]) (h : f_X10_isMinute x0 = R) : W p l e r_X10_isMinute s m args below meth c H locs 0 0 Q (F0 m 0 ls []) := by
  have hx := C.1.1
  have hb := C.1.2.1
  unfold f_X10_isMinute at h
  refine lv_iload_n hx hb dX10_isMinute_0 rfl (lv_at hl 0 rfl) ?_
  refine lv_iconst (v := 0) hx hb dX10_isMinute_1 (by decide) ?_
  refine lv_sipush (v := 8999) hx hb dX10_isMinute_2 (by decide) ?_
  refine g_callSi (eC_ok adK adV) C Z (k_X10_lies x0 0 8999 σ) lk_X10_99 hl (by decide) rfl (Nat.le_of_ble_eq_true rfl) (rest := []) rfl dX10_isMinute_5 (fun H locs Z => ?_)
  subst h
  exact hR _ _ _ _ _ Z dX10_isMinute_8 (nar_b _)
theorem k_X10_isMinute {l : Launch} {kc : Nat → ClassId} {ad : Nat → Nat} {D : va_G} {adK adV : Nat → Nat} (x0 : Int32) (σ : St) : KC (eC adK adV) tC kc ad D l yX10_isMinute (.code yX10_isMinute cX10_isMinute 1 (some .boolean)) r_X10_isMinute [.int x0] (some (.int (f_X10_isMinute x0))) σ σ := by
  refine g_enter (by decide) (Nat.le_of_ble_eq_true rfl) ?_
  intro p e s m args below meth c A hA C hr hlocks Z ls hl
  have hl : lv_has ls 1 [(0, .int x0)] := hl
  exact w_X10_isMinute_0 C (g_RTi C.1.1 C.1.2.1 hr hlocks hA)  Z hl rfl
def r_X10_isAuthor : Room := { frames := 1, cells := 0, slots := 0, locals := 22 }
set_option maxRecDepth 20000 in
theorem w_X10_isAuthor_0 {p : Program} {l : Launch} {e : Env} {s : State} {m : MethodId} {args : Array Value} {below : List Frame} {meth : Method} {c : Code} {Q : State → Prop} {D : va_G} {kc : Nat → ClassId} {ad : Nat → Nat} {A : Nat → Prop} {adK adV : Nat → Nat} (C : Cx (eC adK adV) p s m args c cX10_isAuthor 1 RX10 D kc A) {R : Int32} {x0 : Int32} {σ : St} (hR : RTi 0 0 p l e r_X10_isAuthor s m args below meth c cX10_isAuthor tC kc ad D A Q .boolean R σ) {H : Heap} {locs : List Loc} {ls : Array Slot} (Z : Dy tC kc ad D A s.heap σ H locs) (hl : lv_has ls 1 [(0, .int x0)]) (h : f_X10_isAuthor x0 = R) : W p l e r_X10_isAuthor s m args below meth c H locs 0 0 Q (F0 m 0 ls []) := by
  have hx := C.1.1
  have hb := C.1.2.1
  unfold f_X10_isAuthor at h
  refine lv_iload_n hx hb dX10_isAuthor_0 rfl (lv_at hl 0 rfl) ?_
  refine lv_iconst (v := 0) hx hb dX10_isAuthor_1 (by decide) ?_
  refine lv_iconst (v := 2) hx hb dX10_isAuthor_2 (by decide) ?_
  refine g_callSi (eC_ok adK adV) C Z (k_X10_lies x0 0 2 σ) lk_X10_99 hl (by decide) rfl (Nat.le_of_ble_eq_true rfl) (rest := []) rfl dX10_isAuthor_3 (fun H locs Z => ?_)
  subst h
  exact hR _ _ _ _ _ Z dX10_isAuthor_6 (nar_b _)
theorem k_X10_isAuthor {l : Launch} {kc : Nat → ClassId} {ad : Nat → Nat} {D : va_G} {adK adV : Nat → Nat} (x0 : Int32) (σ : St) : KC (eC adK adV) tC kc ad D l yX10_isAuthor (.code yX10_isAuthor cX10_isAuthor 1 (some .boolean)) r_X10_isAuthor [.int x0] (some (.int (f_X10_isAuthor x0))) σ σ := by
  refine g_enter (by decide) (Nat.le_of_ble_eq_true rfl) ?_
  intro p e s m args below meth c A hA C hr hlocks Z ls hl
  have hl : lv_has ls 1 [(0, .int x0)] := hl
  exact w_X10_isAuthor_0 C (g_RTi C.1.1 C.1.2.1 hr hlocks hA)  Z hl rfl
def r_X10_clock : Room := { frames := 1, cells := 0, slots := 0, locals := 22 }
set_option maxRecDepth 20000 in
theorem w_X10_clock_0 {p : Program} {l : Launch} {e : Env} {s : State} {m : MethodId} {args : Array Value} {below : List Frame} {meth : Method} {c : Code} {Q : State → Prop} {D : va_G} {kc : Nat → ClassId} {ad : Nat → Nat} {A : Nat → Prop} {adK adV : Nat → Nat} (C : Cx (eC adK adV) p s m args c cX10_clock 2 RX10 D kc A) {R : Int32 × St} {x1 : Int32} {σ : St} (hR : RTi 0 0 p l e r_X10_clock s m args below meth c cX10_clock tC kc ad D A Q .boolean R.1 R.2) {H : Heap} {locs : List Loc} {ls : Array Slot} (Z : Dy tC kc ad D A s.heap σ H locs) (hl : lv_has ls 2 [(0, .ref (ad 0)), (1, .int x1)]) (h : f_X10_clock x1 σ = some R) : W p l e r_X10_clock s m args below meth c H locs 0 0 Q (F0 m 0 ls []) := by
  have hx := C.1.1
  have hb := C.1.2.1
  unfold f_X10_clock at h
  refine lv_iload_n hx hb dX10_clock_0 rfl (lv_at hl 1 rfl) ?_
  refine lv_aload_n hx hb dX10_clock_1 rfl (lv_at hl 0 rfl) ?_
  refine rg_X10_7 C Z dX10_clock_2 ?_
  refine lv_sipush (v := 8999) hx hb dX10_clock_5 (by decide) ?_
  refine g_callSi (eC_ok adK adV) C Z (k_X10_lies x1 (gF σ 0) 8999 σ) lk_X10_99 hl (by decide) rfl (Nat.le_of_ble_eq_true rfl) (rest := []) rfl dX10_clock_8 (fun H locs Z => ?_)
  refine lv_if_ne (tgt := 16) hx hb dX10_clock_11 (by decide) (fun c11 => ?_) (fun c11 => ?_)
  · have h := im h c11
    refine lv_aload_n hx hb dX10_clock_16 rfl (lv_at hl 0 rfl) ?_
    refine lv_iload_n hx hb dX10_clock_17 rfl (lv_at hl 1 rfl) ?_
    obtain ⟨σ3, eσ3, h⟩ := lb h
    refine rp_X10_7 C Z eσ3 dX10_clock_18 (fun H locs Z => ?_)
    refine lv_iconst (v := 1) hx hb dX10_clock_21 (by decide) ?_
    obtain rfl := Option.some.inj h
    exact hR _ _ _ _ _ Z dX10_clock_22 rfl
  · have h := ip h c11
    refine lv_iconst (v := 0) hx hb dX10_clock_14 (by decide) ?_
    obtain rfl := Option.some.inj h
    exact hR _ _ _ _ _ Z dX10_clock_15 rfl
theorem k_X10_clock {l : Launch} {kc : Nat → ClassId} {ad : Nat → Nat} {D : va_G} {adK adV : Nat → Nat} {x1 : Int32} {σ : St} {R : Int32 × St} (h : f_X10_clock x1 σ = some R) : KC (eC adK adV) tC kc ad D l yX10_clock (.code yX10_clock cX10_clock 2 (some .boolean)) r_X10_clock [.ref (ad 0), .int x1] (some (.int R.1)) σ R.2 := by
  refine g_enter (by decide) (Nat.le_of_ble_eq_true rfl) ?_
  intro p e s m args below meth c A hA C hr hlocks Z ls hl
  have hl : lv_has ls 2 [(0, .ref (ad 0)), (1, .int x1)] := hl
  exact w_X10_clock_0 C (g_RTi C.1.1 C.1.2.1 hr hlocks hA)  Z hl h
def r_X10_depth : Room := { frames := 3, cells := 0, slots := 0, locals := 67 }
set_option maxRecDepth 20000 in
theorem w_X10_depth_0 {p : Program} {l : Launch} {e : Env} {s : State} {m : MethodId} {args : Array Value} {below : List Frame} {meth : Method} {c : Code} {Q : State → Prop} {D : va_G} {kc : Nat → ClassId} {ad : Nat → Nat} {A : Nat → Prop} {adK adV : Nat → Nat} (C : Cx (eC adK adV) p s m args c cX10_depth 4 RX10 D kc A) {R : Int32 × St} {x1 : Int32} {x2 : Int32} {x3 : Int32} {σ : St} (hR : RTi 0 0 p l e r_X10_depth s m args below meth c cX10_depth tC kc ad D A Q .int R.1 R.2) {H : Heap} {locs : List Loc} {ls : Array Slot} (Z : Dy tC kc ad D A s.heap σ H locs) (hl : lv_has ls 4 [(0, .ref (ad 0)), (1, .int x1), (2, .int x2), (3, .int x3)]) (h : f_X10_depth x1 x2 x3 σ = some R) : W p l e r_X10_depth s m args below meth c H locs 0 0 Q (F0 m 0 ls []) := by
  have hx := C.1.1
  have hb := C.1.2.1
  unfold f_X10_depth at h
  refine lv_iload_n hx hb dX10_depth_0 rfl (lv_at hl 1 rfl) ?_
  refine lv_iload_n hx hb dX10_depth_1 rfl (lv_at hl 2 rfl) ?_
  refine g_callSi (eC_ok adK adV) C Z (k_X6_isCell x1 x2 σ) lk_X10_103 hl (by decide) rfl (Nat.le_of_ble_eq_true rfl) (rest := []) rfl dX10_depth_2 (fun H locs Z => ?_)
  refine lv_if_eq (tgt := 19) hx hb dX10_depth_5 (by decide) (fun c5 => ?_) (fun c5 => ?_)
  · have h := ip h c5
    refine lv_iconst (v := (-1)) hx hb dX10_depth_19 (by decide) ?_
    obtain rfl := Option.some.inj h
    exact hR _ _ _ _ _ Z dX10_depth_20 rfl
  · have h := im h c5
    refine lv_iload_n hx hb dX10_depth_8 rfl (lv_at hl 3 rfl) ?_
    refine lv_iconst (v := 0) hx hb dX10_depth_9 (by decide) ?_
    refine lv_sipush (v := 999) hx hb dX10_depth_10 (by decide) ?_
    refine g_callSi (eC_ok adK adV) C Z (k_X10_lies x3 0 999 σ) lk_X10_99 hl (by decide) rfl (Nat.le_of_ble_eq_true rfl) (rest := []) rfl dX10_depth_13 (fun H locs Z => ?_)
    refine lv_if_ne (tgt := 21) hx hb dX10_depth_16 (by decide) (fun c16 => ?_) (fun c16 => ?_)
    · have h := im h c16
      refine lv_aload_n hx hb dX10_depth_21 rfl (lv_at hl 0 rfl) ?_
      refine rg_X10_16 C Z dX10_depth_22 ?_
      refine lv_iload_n hx hb dX10_depth_25 rfl (lv_at hl 1 rfl) ?_
      refine lv_iload_n hx hb dX10_depth_26 rfl (lv_at hl 2 rfl) ?_
      refine lv_iload_n hx hb dX10_depth_27 rfl (lv_at hl 3 rfl) ?_
      obtain ⟨u3, hu3, h⟩ := ob h
      refine g_callVi (eC_ok adK adV) C Z (k_X6_changeDepth hu3) lk_X10_107 (by decide) rfl rfl hl (by decide) rfl (Nat.le_of_ble_eq_true rfl) (rest := []) rfl dX10_depth_28 (fun H locs Z => ?_)
      obtain rfl := Option.some.inj h
      exact hR _ _ _ _ _ Z dX10_depth_31 rfl
    · have h := ip h c16
      refine lv_iconst (v := (-1)) hx hb dX10_depth_19 (by decide) ?_
      obtain rfl := Option.some.inj h
      exact hR _ _ _ _ _ Z dX10_depth_20 rfl
theorem k_X10_depth {l : Launch} {kc : Nat → ClassId} {ad : Nat → Nat} {D : va_G} {adK adV : Nat → Nat} {x1 : Int32} {x2 : Int32} {x3 : Int32} {σ : St} {R : Int32 × St} (h : f_X10_depth x1 x2 x3 σ = some R) : KC (eC adK adV) tC kc ad D l yX10_depth (.code yX10_depth cX10_depth 4 (some .int)) r_X10_depth [.ref (ad 0), .int x1, .int x2, .int x3] (some (.int R.1)) σ R.2 := by
  refine g_enter (by decide) (Nat.le_of_ble_eq_true rfl) ?_
  intro p e s m args below meth c A hA C hr hlocks Z ls hl
  have hl : lv_has ls 4 [(0, .ref (ad 0)), (1, .int x1), (2, .int x2), (3, .int x3)] := hl
  exact w_X10_depth_0 C (g_RTi C.1.1 C.1.2.1 hr hlocks hA)  Z hl h
def r_X10_ship : Room := { frames := 2, cells := 0, slots := 0, locals := 42 }
set_option maxRecDepth 20000 in
theorem w_X10_ship_0 {p : Program} {l : Launch} {e : Env} {s : State} {m : MethodId} {args : Array Value} {below : List Frame} {meth : Method} {c : Code} {Q : State → Prop} {D : va_G} {kc : Nat → ClassId} {ad : Nat → Nat} {A : Nat → Prop} {adK adV : Nat → Nat} (C : Cx (eC adK adV) p s m args c cX10_ship 5 RX10 D kc A) {R : Int32 × St} {x1 : Int32} {x2 : Int32} {x3 : Int32} {x4 : Int32} {σ : St} (hR : RTi 0 0 p l e r_X10_ship s m args below meth c cX10_ship tC kc ad D A Q .int R.1 R.2) {H : Heap} {locs : List Loc} {ls : Array Slot} (Z : Dy tC kc ad D A s.heap σ H locs) (hl : lv_has ls 5 [(0, .ref (ad 0)), (1, .int x1), (2, .int x2), (3, .int x3), (4, .int x4)]) (h : f_X10_ship x1 x2 x3 x4 σ = some R) : W p l e r_X10_ship s m args below meth c H locs 0 0 Q (F0 m 0 ls []) := by
  have hx := C.1.1
  have hb := C.1.2.1
  unfold f_X10_ship at h
  refine lv_iload_n hx hb dX10_ship_0 rfl (lv_at hl 1 rfl) ?_
  refine g_callSi (eC_ok adK adV) C Z (k_X10_isSide x1 σ) lk_X10_111 hl (by decide) rfl (Nat.le_of_ble_eq_true rfl) (rest := []) rfl dX10_ship_1 (fun H locs Z => ?_)
  refine lv_if_eq (tgt := 37) hx hb dX10_ship_4 (by decide) (fun c4 => ?_) (fun c4 => ?_)
  · have h := ip h c4
    refine lv_iconst (v := (-1)) hx hb dX10_ship_37 (by decide) ?_
    obtain rfl := Option.some.inj h
    exact hR _ _ _ _ _ Z dX10_ship_38 rfl
  · have h := im h c4
    refine lv_iload_n hx hb dX10_ship_7 rfl (lv_at hl 2 rfl) ?_
    refine lv_iconst (v := 0) hx hb dX10_ship_8 (by decide) ?_
    refine lv_iconst (v := 2) hx hb dX10_ship_9 (by decide) ?_
    refine g_callSi (eC_ok adK adV) C Z (k_X10_lies x2 0 2 σ) lk_X10_99 hl (by decide) rfl (Nat.le_of_ble_eq_true rfl) (rest := []) rfl dX10_ship_10 (fun H locs Z => ?_)
    refine lv_if_eq (tgt := 37) hx hb dX10_ship_13 (by decide) (fun c13 => ?_) (fun c13 => ?_)
    · have h := ip h c13
      refine lv_iconst (v := (-1)) hx hb dX10_ship_37 (by decide) ?_
      obtain rfl := Option.some.inj h
      exact hR _ _ _ _ _ Z dX10_ship_38 rfl
    · have h := im h c13
      refine lv_iload_n hx hb dX10_ship_16 rfl (lv_at hl 3 rfl) ?_
      refine lv_iconst (v := 1) hx hb dX10_ship_17 (by decide) ?_
      refine lv_iconst (v := 3) hx hb dX10_ship_18 (by decide) ?_
      refine g_callSi (eC_ok adK adV) C Z (k_X10_lies x3 1 3 σ) lk_X10_99 hl (by decide) rfl (Nat.le_of_ble_eq_true rfl) (rest := []) rfl dX10_ship_19 (fun H locs Z => ?_)
      refine lv_if_eq (tgt := 37) hx hb dX10_ship_22 (by decide) (fun c22 => ?_) (fun c22 => ?_)
      · have h := ip h c22
        refine lv_iconst (v := (-1)) hx hb dX10_ship_37 (by decide) ?_
        obtain rfl := Option.some.inj h
        exact hR _ _ _ _ _ Z dX10_ship_38 rfl
      · have h := im h c22
        refine lv_iload hx hb dX10_ship_25 (lv_at hl 4 rfl) ?_
        refine lv_iconst (v := 0) hx hb dX10_ship_27 (by decide) ?_
        refine lv_sipush (v := 199) hx hb dX10_ship_28 (by decide) ?_
        refine g_callSi (eC_ok adK adV) C Z (k_X10_lies x4 0 199 σ) lk_X10_99 hl (by decide) rfl (Nat.le_of_ble_eq_true rfl) (rest := []) rfl dX10_ship_31 (fun H locs Z => ?_)
        refine lv_if_ne (tgt := 39) hx hb dX10_ship_34 (by decide) (fun c34 => ?_) (fun c34 => ?_)
        · have h := im h c34
          refine lv_aload_n hx hb dX10_ship_39 rfl (lv_at hl 0 rfl) ?_
          refine rg_X10_23 C Z dX10_ship_40 ?_
          refine lv_iload_n hx hb dX10_ship_43 rfl (lv_at hl 1 rfl) ?_
          refine lv_iload_n hx hb dX10_ship_44 rfl (lv_at hl 2 rfl) ?_
          refine lv_iload_n hx hb dX10_ship_45 rfl (lv_at hl 3 rfl) ?_
          refine lv_iload hx hb dX10_ship_46 (lv_at hl 4 rfl) ?_
          obtain ⟨u3, hu3, h⟩ := ob h
          refine g_callVi (eC_ok adK adV) C Z (k_X7_add hu3) lk_X10_115 (by decide) rfl rfl hl (by decide) rfl (Nat.le_of_ble_eq_true rfl) (rest := []) rfl dX10_ship_48 (fun H locs Z => ?_)
          obtain rfl := Option.some.inj h
          exact hR _ _ _ _ _ Z dX10_ship_51 rfl
        · have h := ip h c34
          refine lv_iconst (v := (-1)) hx hb dX10_ship_37 (by decide) ?_
          obtain rfl := Option.some.inj h
          exact hR _ _ _ _ _ Z dX10_ship_38 rfl
theorem k_X10_ship {l : Launch} {kc : Nat → ClassId} {ad : Nat → Nat} {D : va_G} {adK adV : Nat → Nat} {x1 : Int32} {x2 : Int32} {x3 : Int32} {x4 : Int32} {σ : St} {R : Int32 × St} (h : f_X10_ship x1 x2 x3 x4 σ = some R) : KC (eC adK adV) tC kc ad D l yX10_ship (.code yX10_ship cX10_ship 5 (some .int)) r_X10_ship [.ref (ad 0), .int x1, .int x2, .int x3, .int x4] (some (.int R.1)) σ R.2 := by
  refine g_enter (by decide) (Nat.le_of_ble_eq_true rfl) ?_
  intro p e s m args below meth c A hA C hr hlocks Z ls hl
  have hl : lv_has ls 5 [(0, .ref (ad 0)), (1, .int x1), (2, .int x2), (3, .int x3), (4, .int x4)] := hl
  exact w_X10_ship_0 C (g_RTi C.1.1 C.1.2.1 hr hlocks hA)  Z hl h
def r_X10_report : Room := { frames := 4, cells := 0, slots := 0, locals := 93 }
set_option maxRecDepth 20000 in
theorem w_X10_report_0 {p : Program} {l : Launch} {e : Env} {s : State} {m : MethodId} {args : Array Value} {below : List Frame} {meth : Method} {c : Code} {Q : State → Prop} {D : va_G} {kc : Nat → ClassId} {ad : Nat → Nat} {A : Nat → Prop} {adK adV : Nat → Nat} (C : Cx (eC adK adV) p s m args c cX10_report 6 RX10 D kc A) {R : Int32 × St} {x1 : Int32} {x2 : Int32} {x3 : Int32} {x4 : Int32} {x5 : Int32} {σ : St} (hR : RTi 0 0 p l e r_X10_report s m args below meth c cX10_report tC kc ad D A Q .int R.1 R.2) {H : Heap} {locs : List Loc} {ls : Array Slot} (Z : Dy tC kc ad D A s.heap σ H locs) (hl : lv_has ls 6 [(0, .ref (ad 0)), (1, .int x1), (2, .int x2), (3, .int x3), (4, .int x4), (5, .int x5)]) (h : f_X10_report x1 x2 x3 x4 x5 σ = some R) : W p l e r_X10_report s m args below meth c H locs 0 0 Q (F0 m 0 ls []) := by
  have hx := C.1.1
  have hb := C.1.2.1
  unfold f_X10_report at h
  refine lv_aload_n hx hb dX10_report_0 rfl (lv_at hl 0 rfl) ?_
  refine rg_X10_23 C Z dX10_report_1 ?_
  refine lv_iload_n hx hb dX10_report_4 rfl (lv_at hl 1 rfl) ?_
  refine g_callVi (eC_ok adK adV) C Z (k_X7_has x1 σ) lk_X10_119 (by decide) rfl rfl hl (by decide) rfl (Nat.le_of_ble_eq_true rfl) (rest := []) rfl dX10_report_5 (fun H locs Z => ?_)
  refine lv_if_eq (tgt := 44) hx hb dX10_report_8 (by decide) (fun c8 => ?_) (fun c8 => ?_)
  · have h := ip h c8
    refine lv_iconst (v := (-1)) hx hb dX10_report_44 (by decide) ?_
    obtain rfl := Option.some.inj h
    exact hR _ _ _ _ _ Z dX10_report_45 rfl
  · have h := im h c8
    refine lv_aload_n hx hb dX10_report_11 rfl (lv_at hl 0 rfl) ?_
    refine rg_X10_23 C Z dX10_report_12 ?_
    refine lv_iload_n hx hb dX10_report_15 rfl (lv_at hl 2 rfl) ?_
    refine g_callVi (eC_ok adK adV) C Z (k_X7_has x2 σ) lk_X10_119 (by decide) rfl rfl hl (by decide) rfl (Nat.le_of_ble_eq_true rfl) (rest := []) rfl dX10_report_16 (fun H locs Z => ?_)
    refine lv_if_eq (tgt := 44) hx hb dX10_report_19 (by decide) (fun c19 => ?_) (fun c19 => ?_)
    · have h := ip h c19
      refine lv_iconst (v := (-1)) hx hb dX10_report_44 (by decide) ?_
      obtain rfl := Option.some.inj h
      exact hR _ _ _ _ _ Z dX10_report_45 rfl
    · have h := im h c19
      refine lv_iload_n hx hb dX10_report_22 rfl (lv_at hl 3 rfl) ?_
      refine lv_iconst (v := 0) hx hb dX10_report_23 (by decide) ?_
      refine lv_aload_n hx hb dX10_report_24 rfl (lv_at hl 0 rfl) ?_
      refine rg_X10_7 C Z dX10_report_25 ?_
      refine g_callSi (eC_ok adK adV) C Z (k_X10_lies x3 0 (gF σ 0) σ) lk_X10_99 hl (by decide) rfl (Nat.le_of_ble_eq_true rfl) (rest := []) rfl dX10_report_28 (fun H locs Z => ?_)
      refine lv_if_eq (tgt := 44) hx hb dX10_report_31 (by decide) (fun c31 => ?_) (fun c31 => ?_)
      · have h := ip h c31
        refine lv_iconst (v := (-1)) hx hb dX10_report_44 (by decide) ?_
        obtain rfl := Option.some.inj h
        exact hR _ _ _ _ _ Z dX10_report_45 rfl
      · have h := im h c31
        refine lv_iload hx hb dX10_report_34 (lv_at hl 4 rfl) ?_
        refine lv_iload hx hb dX10_report_36 (lv_at hl 5 rfl) ?_
        refine g_callSi (eC_ok adK adV) C Z (k_X6_isCell x4 x5 σ) lk_X10_103 hl (by decide) rfl (Nat.le_of_ble_eq_true rfl) (rest := []) rfl dX10_report_38 (fun H locs Z => ?_)
        refine lv_if_ne (tgt := 46) hx hb dX10_report_41 (by decide) (fun c41 => ?_) (fun c41 => ?_)
        · have h := im h c41
          refine lv_aload_n hx hb dX10_report_46 rfl (lv_at hl 0 rfl) ?_
          refine rg_X10_30 C Z dX10_report_47 ?_
          refine lv_iload_n hx hb dX10_report_50 rfl (lv_at hl 1 rfl) ?_
          refine lv_iload_n hx hb dX10_report_51 rfl (lv_at hl 2 rfl) ?_
          refine lv_iload_n hx hb dX10_report_52 rfl (lv_at hl 3 rfl) ?_
          refine lv_iload hx hb dX10_report_53 (lv_at hl 4 rfl) ?_
          refine lv_iload hx hb dX10_report_55 (lv_at hl 5 rfl) ?_
          refine lv_aload_n hx hb dX10_report_57 rfl (lv_at hl 0 rfl) ?_
          refine rg_X10_7 C Z dX10_report_58 ?_
          obtain ⟨u3, hu3, h⟩ := ob h
          refine g_callVi (eC_ok adK adV) C Z (k_X5_add hu3) lk_X10_122 (by decide) rfl rfl hl (by decide) rfl (Nat.le_of_ble_eq_true rfl) (rest := []) rfl dX10_report_61 (fun H locs Z => ?_)
          obtain rfl := Option.some.inj h
          exact hR _ _ _ _ _ Z dX10_report_64 rfl
        · have h := ip h c41
          refine lv_iconst (v := (-1)) hx hb dX10_report_44 (by decide) ?_
          obtain rfl := Option.some.inj h
          exact hR _ _ _ _ _ Z dX10_report_45 rfl
theorem k_X10_report {l : Launch} {kc : Nat → ClassId} {ad : Nat → Nat} {D : va_G} {adK adV : Nat → Nat} {x1 : Int32} {x2 : Int32} {x3 : Int32} {x4 : Int32} {x5 : Int32} {σ : St} {R : Int32 × St} (h : f_X10_report x1 x2 x3 x4 x5 σ = some R) : KC (eC adK adV) tC kc ad D l yX10_report (.code yX10_report cX10_report 6 (some .int)) r_X10_report [.ref (ad 0), .int x1, .int x2, .int x3, .int x4, .int x5] (some (.int R.1)) σ R.2 := by
  refine g_enter (by decide) (Nat.le_of_ble_eq_true rfl) ?_
  intro p e s m args below meth c A hA C hr hlocks Z ls hl
  have hl : lv_has ls 6 [(0, .ref (ad 0)), (1, .int x1), (2, .int x2), (3, .int x3), (4, .int x4), (5, .int x5)] := hl
  exact w_X10_report_0 C (g_RTi C.1.1 C.1.2.1 hr hlocks hA)  Z hl h
def r_X10_where : Room := { frames := 2, cells := 0, slots := 0, locals := 47 }
set_option maxRecDepth 20000 in
theorem w_X10_where_0 {p : Program} {l : Launch} {e : Env} {s : State} {m : MethodId} {args : Array Value} {below : List Frame} {meth : Method} {c : Code} {Q : State → Prop} {D : va_G} {kc : Nat → ClassId} {ad : Nat → Nat} {A : Nat → Prop} {adK adV : Nat → Nat} (C : Cx (eC adK adV) p s m args c cX10_where 4 RX10 D kc A) {R : Int32} {x1 : Int32} {x2 : Int32} {x3 : Int32} {σ : St} (hR : RTi 0 0 p l e r_X10_where s m args below meth c cX10_where tC kc ad D A Q .int R σ) {H : Heap} {locs : List Loc} {ls : Array Slot} (Z : Dy tC kc ad D A s.heap σ H locs) (hl : lv_has ls 4 [(0, .ref (ad 0)), (1, .int x1), (2, .int x2), (3, .int x3)]) (h : f_X10_where x1 x2 x3 σ = some R) : W p l e r_X10_where s m args below meth c H locs 0 0 Q (F0 m 0 ls []) := by
  have hx := C.1.1
  have hb := C.1.2.1
  unfold f_X10_where at h
  refine lv_aload_n hx hb dX10_where_0 rfl (lv_at hl 0 rfl) ?_
  refine rg_X10_23 C Z dX10_where_1 ?_
  refine lv_iload_n hx hb dX10_where_4 rfl (lv_at hl 1 rfl) ?_
  refine g_callVi (eC_ok adK adV) C Z (k_X7_has x1 σ) lk_X10_119 (by decide) rfl rfl hl (by decide) rfl (Nat.le_of_ble_eq_true rfl) (rest := []) rfl dX10_where_5 (fun H locs Z => ?_)
  refine lv_if_eq (tgt := 25) hx hb dX10_where_8 (by decide) (fun c8 => ?_) (fun c8 => ?_)
  · have h := ip h c8
    refine lv_iconst (v := (-1)) hx hb dX10_where_25 (by decide) ?_
    obtain rfl := Option.some.inj h
    exact hR _ _ _ _ _ Z dX10_where_26 rfl
  · have h := im h c8
    refine lv_iload_n hx hb dX10_where_11 rfl (lv_at hl 2 rfl) ?_
    refine g_callSi (eC_ok adK adV) C Z (k_X10_isMinute x2 σ) lk_X10_125 hl (by decide) rfl (Nat.le_of_ble_eq_true rfl) (rest := []) rfl dX10_where_12 (fun H locs Z => ?_)
    refine lv_if_eq (tgt := 25) hx hb dX10_where_15 (by decide) (fun c15 => ?_) (fun c15 => ?_)
    · have h := ip h c15
      refine lv_iconst (v := (-1)) hx hb dX10_where_25 (by decide) ?_
      obtain rfl := Option.some.inj h
      exact hR _ _ _ _ _ Z dX10_where_26 rfl
    · have h := im h c15
      refine lv_iload_n hx hb dX10_where_18 rfl (lv_at hl 3 rfl) ?_
      refine g_callSi (eC_ok adK adV) C Z (k_X10_isMinute x3 σ) lk_X10_125 hl (by decide) rfl (Nat.le_of_ble_eq_true rfl) (rest := []) rfl dX10_where_19 (fun H locs Z => ?_)
      refine lv_if_ne (tgt := 27) hx hb dX10_where_22 (by decide) (fun c22 => ?_) (fun c22 => ?_)
      · have h := im h c22
        refine lv_aload_n hx hb dX10_where_27 rfl (lv_at hl 0 rfl) ?_
        refine rg_X10_30 C Z dX10_where_28 ?_
        refine lv_iload_n hx hb dX10_where_31 rfl (lv_at hl 1 rfl) ?_
        refine lv_iload_n hx hb dX10_where_32 rfl (lv_at hl 2 rfl) ?_
        refine lv_iload_n hx hb dX10_where_33 rfl (lv_at hl 3 rfl) ?_
        obtain ⟨v3, hv3, h⟩ := ob h
        refine g_callVi (eC_ok adK adV) C Z (k_X5_cellOf hv3) lk_X10_128 (by decide) rfl rfl hl (by decide) rfl (Nat.le_of_ble_eq_true rfl) (rest := []) rfl dX10_where_34 (fun H locs Z => ?_)
        obtain rfl := Option.some.inj h
        exact hR _ _ _ _ _ Z dX10_where_37 rfl
      · have h := ip h c22
        refine lv_iconst (v := (-1)) hx hb dX10_where_25 (by decide) ?_
        obtain rfl := Option.some.inj h
        exact hR _ _ _ _ _ Z dX10_where_26 rfl
theorem k_X10_where {l : Launch} {kc : Nat → ClassId} {ad : Nat → Nat} {D : va_G} {adK adV : Nat → Nat} {x1 : Int32} {x2 : Int32} {x3 : Int32} {σ : St} {R : Int32} (h : f_X10_where x1 x2 x3 σ = some R) : KC (eC adK adV) tC kc ad D l yX10_where (.code yX10_where cX10_where 4 (some .int)) r_X10_where [.ref (ad 0), .int x1, .int x2, .int x3] (some (.int R)) σ σ := by
  refine g_enter (by decide) (Nat.le_of_ble_eq_true rfl) ?_
  intro p e s m args below meth c A hA C hr hlocks Z ls hl
  have hl : lv_has ls 4 [(0, .ref (ad 0)), (1, .int x1), (2, .int x2), (3, .int x3)] := hl
  exact w_X10_where_0 C (g_RTi C.1.1 C.1.2.1 hr hlocks hA)  Z hl h
def r_X10_chain : Room := { frames := 4, cells := 0, slots := 0, locals := 100 }
set_option maxRecDepth 20000 in
theorem w_X10_chain_0 {p : Program} {l : Launch} {e : Env} {s : State} {m : MethodId} {args : Array Value} {below : List Frame} {meth : Method} {c : Code} {Q : State → Prop} {D : va_G} {kc : Nat → ClassId} {ad : Nat → Nat} {A : Nat → Prop} {adK adV : Nat → Nat} (C : Cx (eC adK adV) p s m args c cX10_chain 3 RX10 D kc A) {R : Int32 × St} {x1 : Int32} {x2 : Int32} {σ : St} (hR : RTi 0 0 p l e r_X10_chain s m args below meth c cX10_chain tC kc ad D A Q .int R.1 R.2) {H : Heap} {locs : List Loc} {ls : Array Slot} (Z : Dy tC kc ad D A s.heap σ H locs) (hl : lv_has ls 3 [(0, .ref (ad 0)), (1, .int x1), (2, .int x2)]) (h : f_X10_chain x1 x2 σ = some R) : W p l e r_X10_chain s m args below meth c H locs 0 0 Q (F0 m 0 ls []) := by
  have hx := C.1.1
  have hb := C.1.2.1
  unfold f_X10_chain at h
  refine lv_aload_n hx hb dX10_chain_0 rfl (lv_at hl 0 rfl) ?_
  refine rg_X10_23 C Z dX10_chain_1 ?_
  refine lv_iload_n hx hb dX10_chain_4 rfl (lv_at hl 1 rfl) ?_
  refine g_callVi (eC_ok adK adV) C Z (k_X7_has x1 σ) lk_X10_119 (by decide) rfl rfl hl (by decide) rfl (Nat.le_of_ble_eq_true rfl) (rest := []) rfl dX10_chain_5 (fun H locs Z => ?_)
  refine lv_if_eq (tgt := 18) hx hb dX10_chain_8 (by decide) (fun c8 => ?_) (fun c8 => ?_)
  · have h := ip h c8
    refine lv_iconst (v := (-1)) hx hb dX10_chain_18 (by decide) ?_
    obtain rfl := Option.some.inj h
    exact hR _ _ _ _ _ Z dX10_chain_19 rfl
  · have h := im h c8
    refine lv_iload_n hx hb dX10_chain_11 rfl (lv_at hl 2 rfl) ?_
    refine g_callSi (eC_ok adK adV) C Z (k_X10_isMinute x2 σ) lk_X10_125 hl (by decide) rfl (Nat.le_of_ble_eq_true rfl) (rest := []) rfl dX10_chain_12 (fun H locs Z => ?_)
    refine lv_if_ne (tgt := 20) hx hb dX10_chain_15 (by decide) (fun c15 => ?_) (fun c15 => ?_)
    · have h := im h c15
      refine lv_aload_n hx hb dX10_chain_20 rfl (lv_at hl 0 rfl) ?_
      refine rg_X10_30 C Z dX10_chain_21 ?_
      refine lv_iload_n hx hb dX10_chain_24 rfl (lv_at hl 1 rfl) ?_
      refine lv_aload_n hx hb dX10_chain_25 rfl (lv_at hl 0 rfl) ?_
      refine rg_X10_23 C Z dX10_chain_26 ?_
      refine rg_X10_131 C Z dX10_chain_29 ?_
      refine lv_iload_n hx hb dX10_chain_32 rfl (lv_at hl 1 rfl) ?_
      obtain ⟨v5, hv5, h⟩ := ob h
      refine g_iald C Z iaC20 hv5 dX10_chain_33 ?_
      refine lv_iload_n hx hb dX10_chain_34 rfl (lv_at hl 2 rfl) ?_
      obtain ⟨u6, hu6, h⟩ := ob h
      refine g_callVi (eC_ok adK adV) C Z (k_X5_findChain hu6) lk_X10_134 (by decide) rfl rfl hl (by decide) rfl (Nat.le_of_ble_eq_true rfl) (rest := []) rfl dX10_chain_35 (fun H locs Z => ?_)
      obtain rfl := Option.some.inj h
      exact hR _ _ _ _ _ Z dX10_chain_38 rfl
    · have h := ip h c15
      refine lv_iconst (v := (-1)) hx hb dX10_chain_18 (by decide) ?_
      obtain rfl := Option.some.inj h
      exact hR _ _ _ _ _ Z dX10_chain_19 rfl
theorem k_X10_chain {l : Launch} {kc : Nat → ClassId} {ad : Nat → Nat} {D : va_G} {adK adV : Nat → Nat} {x1 : Int32} {x2 : Int32} {σ : St} {R : Int32 × St} (h : f_X10_chain x1 x2 σ = some R) : KC (eC adK adV) tC kc ad D l yX10_chain (.code yX10_chain cX10_chain 3 (some .int)) r_X10_chain [.ref (ad 0), .int x1, .int x2] (some (.int R.1)) σ R.2 := by
  refine g_enter (by decide) (Nat.le_of_ble_eq_true rfl) ?_
  intro p e s m args below meth c A hA C hr hlocks Z ls hl
  have hl : lv_has ls 3 [(0, .ref (ad 0)), (1, .int x1), (2, .int x2)] := hl
  exact w_X10_chain_0 C (g_RTi C.1.1 C.1.2.1 hr hlocks hA)  Z hl h
def r_X10_chained : Room := { frames := 1, cells := 0, slots := 0, locals := 21 }
set_option maxRecDepth 20000 in
theorem w_X10_chained_0 {p : Program} {l : Launch} {e : Env} {s : State} {m : MethodId} {args : Array Value} {below : List Frame} {meth : Method} {c : Code} {Q : State → Prop} {D : va_G} {kc : Nat → ClassId} {ad : Nat → Nat} {A : Nat → Prop} {adK adV : Nat → Nat} (C : Cx (eC adK adV) p s m args c cX10_chained 2 RX10 D kc A) {R : Int32} {x1 : Int32} {σ : St} (hR : RTi 0 0 p l e r_X10_chained s m args below meth c cX10_chained tC kc ad D A Q .int R σ) {H : Heap} {locs : List Loc} {ls : Array Slot} (Z : Dy tC kc ad D A s.heap σ H locs) (hl : lv_has ls 2 [(0, .ref (ad 0)), (1, .int x1)]) (h : f_X10_chained x1 σ = some R) : W p l e r_X10_chained s m args below meth c H locs 0 0 Q (F0 m 0 ls []) := by
  have hx := C.1.1
  have hb := C.1.2.1
  unfold f_X10_chained at h
  refine lv_aload_n hx hb dX10_chained_0 rfl (lv_at hl 0 rfl) ?_
  refine rg_X10_30 C Z dX10_chained_1 ?_
  refine lv_iload_n hx hb dX10_chained_4 rfl (lv_at hl 1 rfl) ?_
  obtain ⟨v2, hv2, h⟩ := ob h
  refine g_callVi (eC_ok adK adV) C Z (k_X5_inChain hv2) lk_X10_137 (by decide) rfl rfl hl (by decide) rfl (Nat.le_of_ble_eq_true rfl) (rest := []) rfl dX10_chained_5 (fun H locs Z => ?_)
  obtain rfl := Option.some.inj h
  exact hR _ _ _ _ _ Z dX10_chained_8 rfl
theorem k_X10_chained {l : Launch} {kc : Nat → ClassId} {ad : Nat → Nat} {D : va_G} {adK adV : Nat → Nat} {x1 : Int32} {σ : St} {R : Int32} (h : f_X10_chained x1 σ = some R) : KC (eC adK adV) tC kc ad D l yX10_chained (.code yX10_chained cX10_chained 2 (some .int)) r_X10_chained [.ref (ad 0), .int x1] (some (.int R)) σ σ := by
  refine g_enter (by decide) (Nat.le_of_ble_eq_true rfl) ?_
  intro p e s m args below meth c A hA C hr hlocks Z ls hl
  have hl : lv_has ls 2 [(0, .ref (ad 0)), (1, .int x1)] := hl
  exact w_X10_chained_0 C (g_RTi C.1.1 C.1.2.1 hr hlocks hA)  Z hl h
