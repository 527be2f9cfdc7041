def r_X11_act : Room := { frames := 2, cells := 0, slots := 0, locals := 46 }
set_option maxRecDepth 20000 in
theorem w_X11_act_0 {p : Program} {l : Launch} {e : Env} {s : State} {m : MethodId} {args : Array Value} {below : List Frame} {meth : Method} {c : Code} {Q : State → Prop} {D : va_G} {kc : Nat → ClassId} {ad : Nat → Nat} {A : Nat → Prop} (C : Cx eM p s m args c cX11_act 6 RX11 D kc A) {R : Int32 × St} {x1 : Int32} {x2 : Int32} {x3 : Int32} {x4 : Int32} {x5 : Int32} {σ : St} (hR : RTi 0 0 p l e r_X11_act s m args below meth c cX11_act tM kc ad D A Q .int R.1 R.2) {H : Heap} {locs : List Loc} {ls : Array Slot} (Z : Dy tM kc ad D A s.heap σ H locs) (hl : lv_has ls 6 [(0, .ref (ad 0)), (1, .int x1), (2, .int x2), (3, .int x3), (4, .int x4), (5, .int x5)]) (h : f_X11_act x1 x2 x3 x4 x5 σ = some R) : W p l e r_X11_act s m args below meth c H locs 0 0 Q (F0 m 0 ls []) := by
  have hx := C.1.1
  have hb := C.1.2.1
  unfold f_X11_act at h
  refine lv_aload_n hx hb dX11_act_0 rfl (lv_at hl 0 rfl) ?_
  refine rg_X11_485 C Z dX11_act_1 ?_
  refine lv_sipush (v := 150) hx hb dX11_act_4 (by decide) ?_
  refine lv_icmp_eq (tgt := 54) hx hb dX11_act_7 (by decide) (fun c7 => ?_) (fun c7 => ?_)
  · have h := ip h c7
    refine lv_iconst (v := (-1)) hx hb dX11_act_54 (by decide) ?_
    obtain rfl := Option.some.inj h
    exact hR _ _ _ _ _ Z dX11_act_55 rfl
  · have h := im h c7
    refine lv_aload_n hx hb dX11_act_10 rfl (lv_at hl 0 rfl) ?_
    refine lv_iload_n hx hb dX11_act_11 rfl (lv_at hl 1 rfl) ?_
    refine g_callVi eM_ok C Z (k_X11_isShip x1 σ) lk_X11_264 (by decide) rfl rfl hl (by decide) rfl (Nat.le_of_ble_eq_true rfl) (rest := []) rfl dX11_act_12 (fun H locs Z => ?_)
    refine lv_if_eq (tgt := 54) hx hb dX11_act_15 (by decide) (fun c15 => ?_) (fun c15 => ?_)
    · have h := ip h c15
      refine lv_iconst (v := (-1)) hx hb dX11_act_54 (by decide) ?_
      obtain rfl := Option.some.inj h
      exact hR _ _ _ _ _ Z dX11_act_55 rfl
    · have h := im h c15
      refine lv_iload_n hx hb dX11_act_18 rfl (lv_at hl 2 rfl) ?_
      refine lv_i2l (v := x2.toInt64) hx hb dX11_act_19 rfl ?_
      refine lv_lconst (v := 0) hx hb dX11_act_20 (by decide) ?_
      refine lv_ldc2 (v := 4) hx hb C.1.2.2.2.1 (C.1.2.2.2.2 _ wDL_X11_472) dX11_act_21 ?_
      refine g_callSi eM_ok C Z (k_X11_in x2.toInt64 0 4 σ) lk_X11_233 hl (by decide) rfl (Nat.le_of_ble_eq_true rfl) (rest := []) rfl dX11_act_24 (fun H locs Z => ?_)
      refine lv_if_eq (tgt := 54) hx hb dX11_act_27 (by decide) (fun c27 => ?_) (fun c27 => ?_)
      · have h := ip h c27
        refine lv_iconst (v := (-1)) hx hb dX11_act_54 (by decide) ?_
        obtain rfl := Option.some.inj h
        exact hR _ _ _ _ _ Z dX11_act_55 rfl
      · have h := im h c27
        refine lv_iload_n hx hb dX11_act_30 rfl (lv_at hl 3 rfl) ?_
        refine lv_iload hx hb dX11_act_31 (lv_at hl 4 rfl) ?_
        refine g_callSi eM_ok C Z (k_X11_isCell x3 x4 σ) lk_X11_242 hl (by decide) rfl (Nat.le_of_ble_eq_true rfl) (rest := []) rfl dX11_act_33 (fun H locs Z => ?_)
        refine lv_if_eq (tgt := 54) hx hb dX11_act_36 (by decide) (fun c36 => ?_) (fun c36 => ?_)
        · have h := ip h c36
          refine lv_iconst (v := (-1)) hx hb dX11_act_54 (by decide) ?_
          obtain rfl := Option.some.inj h
          exact hR _ _ _ _ _ Z dX11_act_55 rfl
        · have h := im h c36
          refine lv_iload hx hb dX11_act_39 (lv_at hl 5 rfl) ?_
          refine lv_i2l (v := x5.toInt64) hx hb dX11_act_41 rfl ?_
          refine lv_lconst (v := 0) hx hb dX11_act_42 (by decide) ?_
          refine lv_aload_n hx hb dX11_act_43 rfl (lv_at hl 0 rfl) ?_
          refine rg_X11_237 C Z dX11_act_44 ?_
          refine lv_i2l (v := (gF σ 0).toInt64) hx hb dX11_act_47 rfl ?_
          refine g_callSi eM_ok C Z (k_X11_in x5.toInt64 0 ((gF σ 0).toInt64) σ) lk_X11_233 hl (by decide) rfl (Nat.le_of_ble_eq_true rfl) (rest := []) rfl dX11_act_48 (fun H locs Z => ?_)
          refine lv_if_ne (tgt := 56) hx hb dX11_act_51 (by decide) (fun c51 => ?_) (fun c51 => ?_)
          · have h := im h c51
            refine lv_aload_n hx hb dX11_act_56 rfl (lv_at hl 0 rfl) ?_
            refine rg_X11_139 C Z dX11_act_57 ?_
            refine lv_aload_n hx hb dX11_act_60 rfl (lv_at hl 0 rfl) ?_
            refine rg_X11_485 C Z dX11_act_61 ?_
            refine lv_iload_n hx hb dX11_act_64 rfl (lv_at hl 1 rfl) ?_
            obtain ⟨σ13, hσ13, h⟩ := ob h
            refine g_iast C Z iaM34 hσ13 dX11_act_65 (fun H locs Z => ?_)
            refine lv_aload_n hx hb dX11_act_66 rfl (lv_at hl 0 rfl) ?_
            refine rg_X11_142 C Z dX11_act_67 ?_
            refine lv_aload_n hx hb dX11_act_70 rfl (lv_at hl 0 rfl) ?_
            refine rg_X11_485 C Z dX11_act_71 ?_
            refine lv_iload_n hx hb dX11_act_74 rfl (lv_at hl 2 rfl) ?_
            obtain ⟨σ14, hσ14, h⟩ := ob h
            refine g_iast C Z iaM35 hσ14 dX11_act_75 (fun H locs Z => ?_)
            refine lv_aload_n hx hb dX11_act_76 rfl (lv_at hl 0 rfl) ?_
            refine rg_X11_145 C Z dX11_act_77 ?_
            refine lv_aload_n hx hb dX11_act_80 rfl (lv_at hl 0 rfl) ?_
            refine rg_X11_485 C Z dX11_act_81 ?_
            refine lv_iload_n hx hb dX11_act_84 rfl (lv_at hl 3 rfl) ?_
            obtain ⟨σ15, hσ15, h⟩ := ob h
            refine g_iast C Z iaM36 hσ15 dX11_act_85 (fun H locs Z => ?_)
            refine lv_aload_n hx hb dX11_act_86 rfl (lv_at hl 0 rfl) ?_
            refine rg_X11_148 C Z dX11_act_87 ?_
            refine lv_aload_n hx hb dX11_act_90 rfl (lv_at hl 0 rfl) ?_
            refine rg_X11_485 C Z dX11_act_91 ?_
            refine lv_iload hx hb dX11_act_94 (lv_at hl 4 rfl) ?_
            obtain ⟨σ16, hσ16, h⟩ := ob h
            refine g_iast C Z iaM37 hσ16 dX11_act_96 (fun H locs Z => ?_)
            refine lv_aload_n hx hb dX11_act_97 rfl (lv_at hl 0 rfl) ?_
            refine rg_X11_151 C Z dX11_act_98 ?_
            refine lv_aload_n hx hb dX11_act_101 rfl (lv_at hl 0 rfl) ?_
            refine rg_X11_485 C Z dX11_act_102 ?_
            refine lv_iload hx hb dX11_act_105 (lv_at hl 5 rfl) ?_
            obtain ⟨σ17, hσ17, h⟩ := ob h
            refine g_iast C Z iaM38 hσ17 dX11_act_107 (fun H locs Z => ?_)
            refine lv_aload_n hx hb dX11_act_108 rfl (lv_at hl 0 rfl) ?_
            refine lv_dup hx hb dX11_act_109 rfl ?_
            refine rg_X11_485 C Z dX11_act_110 ?_
            refine lv_iconst (v := 1) hx hb dX11_act_113 (by decide) ?_
            refine lv_iadd hx hb dX11_act_114 ?_
            obtain ⟨σ18, eσ18, h⟩ := lb h
            refine rp_X11_485 C Z eσ18 dX11_act_115 (fun H locs Z => ?_)
            refine lv_aload_n hx hb dX11_act_118 rfl (lv_at hl 0 rfl) ?_
            refine rg_X11_485 C Z dX11_act_119 ?_
            refine lv_iconst (v := 1) hx hb dX11_act_122 (by decide) ?_
            refine lv_isub hx hb dX11_act_123 ?_
            obtain rfl := Option.some.inj h
            exact hR _ _ _ _ _ Z dX11_act_124 rfl
          · have h := ip h c51
            refine lv_iconst (v := (-1)) hx hb dX11_act_54 (by decide) ?_
            obtain rfl := Option.some.inj h
            exact hR _ _ _ _ _ Z dX11_act_55 rfl
theorem k_X11_act {l : Launch} {kc : Nat → ClassId} {ad : Nat → Nat} {D : va_G} {x1 : Int32} {x2 : Int32} {x3 : Int32} {x4 : Int32} {x5 : Int32} {σ : St} {R : Int32 × St} (h : f_X11_act x1 x2 x3 x4 x5 σ = some R) : KC eM tM kc ad D l yX11_act (.code yX11_act cX11_act 6 (some .int)) r_X11_act [.ref (ad 0), .int x1, .int x2, .int x3, .int x4, .int x5] (some (.int R.1)) σ R.2 := by
  refine g_enter (by decide) (Nat.le_of_ble_eq_true rfl) ?_
  intro p e s m args below meth c A hA C hr hlocks Z ls hl
  have hl : lv_has ls 6 [(0, .ref (ad 0)), (1, .int x1), (2, .int x2), (3, .int x3), (4, .int x4), (5, .int x5)] := hl
  exact w_X11_act_0 C (g_RTi C.1.1 C.1.2.1 hr hlocks hA)  Z hl h
def r_X11_isKept : Room := { frames := 7, cells := 0, slots := 0, locals := 184 }
set_option maxRecDepth 20000 in
theorem w_X11_isKept_94 {p : Program} {l : Launch} {e : Env} {s : State} {m : MethodId} {args : Array Value} {below : List Frame} {meth : Method} {c : Code} {Q : State → Prop} {D : va_G} {kc : Nat → ClassId} {ad : Nat → Nat} {A : Nat → Prop} (C : Cx eM p s m args c cX11_isKept 3 RX11 D kc A) {R : Int32 × St} {σ : St} (hR : RTi 0 0 p l e r_X11_isKept s m args below meth c cX11_isKept tM kc ad D A Q .boolean R.1 R.2) {H : Heap} {locs : List Loc} {ls : Array Slot} (Z : Dy tM kc ad D A s.heap σ H locs) (hl : lv_has ls 3 []) (h : f_X11_isKept_94 σ = some R) : W p l e r_X11_isKept s m args below meth c H locs 0 0 Q (F0 m 94 ls []) := by
  have hx := C.1.1
  have hb := C.1.2.1
  unfold f_X11_isKept_94 at h
  refine lv_iconst (v := 1) hx hb dX11_isKept_94 (by decide) ?_
  refine lv_goto (tgt := 99) hx hb dX11_isKept_95 (by decide) ?_
  obtain rfl := Option.some.inj h
  exact hR _ _ _ _ _ Z dX11_isKept_99 rfl
set_option maxRecDepth 20000 in
theorem w_X11_isKept_0 {p : Program} {l : Launch} {e : Env} {s : State} {m : MethodId} {args : Array Value} {below : List Frame} {meth : Method} {c : Code} {Q : State → Prop} {D : va_G} {kc : Nat → ClassId} {ad : Nat → Nat} {A : Nat → Prop} (C : Cx eM p s m args c cX11_isKept 3 RX11 D kc A) {R : Int32 × St} {x1 : Int32} {x2 : Int32} {σ : St} (hR : RTi 0 0 p l e r_X11_isKept s m args below meth c cX11_isKept tM kc ad D A Q .boolean R.1 R.2) {H : Heap} {locs : List Loc} {ls : Array Slot} (Z : Dy tM kc ad D A s.heap σ H locs) (hl : lv_has ls 3 [(0, .ref (ad 0)), (1, .int x1), (2, .int x2)]) (h : f_X11_isKept x1 x2 σ = some R) : W p l e r_X11_isKept s m args below meth c H locs 0 0 Q (F0 m 0 ls []) := by
  have hx := C.1.1
  have hb := C.1.2.1
  unfold f_X11_isKept at h
  refine lv_aload_n hx hb dX11_isKept_0 rfl (lv_at hl 0 rfl) ?_
  refine lv_iload_n hx hb dX11_isKept_1 rfl (lv_at hl 2 rfl) ?_
  refine lv_aload_n hx hb dX11_isKept_2 rfl (lv_at hl 0 rfl) ?_
  refine rg_X11_142 C Z dX11_isKept_3 ?_
  refine lv_iload_n hx hb dX11_isKept_6 rfl (lv_at hl 1 rfl) ?_
  obtain ⟨v29, hv29, h⟩ := ob h
  refine g_iald C Z iaM35 hv29 dX11_isKept_7 ?_
  refine lv_aload_n hx hb dX11_isKept_8 rfl (lv_at hl 0 rfl) ?_
  refine rg_X11_139 C Z dX11_isKept_9 ?_
  refine lv_iload_n hx hb dX11_isKept_12 rfl (lv_at hl 1 rfl) ?_
  obtain ⟨v30, hv30, h⟩ := ob h
  refine g_iald C Z iaM34 hv30 dX11_isKept_13 ?_
  refine lv_aload_n hx hb dX11_isKept_14 rfl (lv_at hl 0 rfl) ?_
  refine rg_X11_145 C Z dX11_isKept_15 ?_
  refine lv_iload_n hx hb dX11_isKept_18 rfl (lv_at hl 1 rfl) ?_
  obtain ⟨v31, hv31, h⟩ := ob h
  refine g_iald C Z iaM36 hv31 dX11_isKept_19 ?_
  refine lv_aload_n hx hb dX11_isKept_20 rfl (lv_at hl 0 rfl) ?_
  refine rg_X11_148 C Z dX11_isKept_21 ?_
  refine lv_iload_n hx hb dX11_isKept_24 rfl (lv_at hl 1 rfl) ?_
  obtain ⟨v32, hv32, h⟩ := ob h
  refine g_iald C Z iaM37 hv32 dX11_isKept_25 ?_
  refine lv_aload_n hx hb dX11_isKept_26 rfl (lv_at hl 0 rfl) ?_
  refine rg_X11_151 C Z dX11_isKept_27 ?_
  refine lv_iload_n hx hb dX11_isKept_30 rfl (lv_at hl 1 rfl) ?_
  obtain ⟨v33, hv33, h⟩ := ob h
  refine g_iald C Z iaM38 hv33 dX11_isKept_31 ?_
  obtain ⟨u34, hu34, h⟩ := ob h
  refine g_callVi eM_ok C Z (k_X11_mayDo hu34) lk_X11_477 (by decide) rfl rfl hl (by decide) rfl (Nat.le_of_ble_eq_true rfl) (rest := []) rfl dX11_isKept_32 (fun H locs Z => ?_)
  refine lv_if_ne (tgt := 40) hx hb dX11_isKept_35 (by decide) (fun c35 => ?_) (fun c35 => ?_)
  · have h := im h c35
    refine lv_aload_n hx hb dX11_isKept_40 rfl (lv_at hl 0 rfl) ?_
    refine rg_X11_142 C Z dX11_isKept_41 ?_
    refine lv_iload_n hx hb dX11_isKept_44 rfl (lv_at hl 1 rfl) ?_
    obtain ⟨v35, hv35, h⟩ := ob h
    refine g_iald C Z iaM35 hv35 dX11_isKept_45 ?_
    refine lv_if_ne (tgt := 94) hx hb dX11_isKept_46 (by decide) (fun c46 => ?_) (fun c46 => ?_)
    · have h := im h c46
      exact w_X11_isKept_94 C hR Z (lv_sub hl [] rfl) h
    · have h := ip h c46
      refine lv_aload_n hx hb dX11_isKept_49 rfl (lv_at hl 0 rfl) ?_
      refine rg_X11_22 C Z dX11_isKept_50 ?_
      refine lv_aload_n hx hb dX11_isKept_53 rfl (lv_at hl 0 rfl) ?_
      refine rg_X11_139 C Z dX11_isKept_54 ?_
      refine lv_iload_n hx hb dX11_isKept_57 rfl (lv_at hl 1 rfl) ?_
      obtain ⟨v36, hv36, h⟩ := ob h
      refine g_iald C Z iaM34 hv36 dX11_isKept_58 ?_
      obtain ⟨v37, hv37, h⟩ := ob h
      refine g_iald C Z iaM5 hv37 dX11_isKept_59 ?_
      refine lv_i2l (v := v37.toInt64) hx hb dX11_isKept_60 rfl ?_
      refine lv_aload_n hx hb dX11_isKept_61 rfl (lv_at hl 0 rfl) ?_
      refine lv_iload_n hx hb dX11_isKept_62 rfl (lv_at hl 2 rfl) ?_
      refine lv_aload_n hx hb dX11_isKept_63 rfl (lv_at hl 0 rfl) ?_
      refine rg_X11_139 C Z dX11_isKept_64 ?_
      refine lv_iload_n hx hb dX11_isKept_67 rfl (lv_at hl 1 rfl) ?_
      obtain ⟨v38, hv38, h⟩ := ob h
      refine g_iald C Z iaM34 hv38 dX11_isKept_68 ?_
      refine lv_aload_n hx hb dX11_isKept_69 rfl (lv_at hl 0 rfl) ?_
      refine rg_X11_145 C Z dX11_isKept_70 ?_
      refine lv_iload_n hx hb dX11_isKept_73 rfl (lv_at hl 1 rfl) ?_
      obtain ⟨v39, hv39, h⟩ := ob h
      refine g_iald C Z iaM36 hv39 dX11_isKept_74 ?_
      refine lv_aload_n hx hb dX11_isKept_75 rfl (lv_at hl 0 rfl) ?_
      refine rg_X11_148 C Z dX11_isKept_76 ?_
      refine lv_iload_n hx hb dX11_isKept_79 rfl (lv_at hl 1 rfl) ?_
      obtain ⟨v40, hv40, h⟩ := ob h
      refine g_iald C Z iaM37 hv40 dX11_isKept_80 ?_
      refine lv_aload_n hx hb dX11_isKept_81 rfl (lv_at hl 0 rfl) ?_
      refine rg_X11_151 C Z dX11_isKept_82 ?_
      refine lv_iload_n hx hb dX11_isKept_85 rfl (lv_at hl 1 rfl) ?_
      obtain ⟨v41, hv41, h⟩ := ob h
      refine g_iald C Z iaM38 hv41 dX11_isKept_86 ?_
      obtain ⟨u42, hu42, h⟩ := ob h
      refine g_callVl eM_ok C Z (k_X11_meshOf hu42) lk_X11_481 (by decide) rfl rfl hl (by decide) rfl (Nat.le_of_ble_eq_true rfl) (rest := [.long v37.toInt64]) rfl dX11_isKept_87 (fun H locs Z => ?_)
      refine g_llt (tgt := 98) hx hb dX11_isKept_90 dX11_isKept_91 (by decide) (fun c91 => ?_) (fun c91 => ?_)
      · have h := ip h c91
        refine lv_iconst (v := 0) hx hb dX11_isKept_98 (by decide) ?_
        obtain rfl := Option.some.inj h
        exact hR _ _ _ _ _ Z dX11_isKept_99 rfl
      · have h := im h c91
        exact w_X11_isKept_94 C hR Z (lv_sub hl [] rfl) h
  · have h := ip h c35
    refine lv_iconst (v := 0) hx hb dX11_isKept_38 (by decide) ?_
    obtain rfl := Option.some.inj h
    exact hR _ _ _ _ _ Z dX11_isKept_39 rfl
theorem k_X11_isKept {l : Launch} {kc : Nat → ClassId} {ad : Nat → Nat} {D : va_G} {x1 : Int32} {x2 : Int32} {σ : St} {R : Int32 × St} (h : f_X11_isKept x1 x2 σ = some R) : KC eM tM kc ad D l yX11_isKept (.code yX11_isKept cX11_isKept 3 (some .boolean)) r_X11_isKept [.ref (ad 0), .int x1, .int x2] (some (.int R.1)) σ R.2 := by
  refine g_enter (by decide) (Nat.le_of_ble_eq_true rfl) ?_
  intro p e s m args below meth c A hA C hr hlocks Z ls hl
  have hl : lv_has ls 3 [(0, .ref (ad 0)), (1, .int x1), (2, .int x2)] := hl
  exact w_X11_isKept_0 C (g_RTi C.1.1 C.1.2.1 hr hlocks hA)  Z hl h
def r_X11_kept : Room := { frames := 8, cells := 0, slots := 0, locals := 206 }
set_option maxRecDepth 20000 in
theorem w_X11_kept_28 {p : Program} {l : Launch} {e : Env} {s : State} {m : MethodId} {args : Array Value} {below : List Frame} {meth : Method} {c : Code} {Q : State → Prop} {D : va_G} {kc : Nat → ClassId} {ad : Nat → Nat} {A : Nat → Prop} (C : Cx eM p s m args c cX11_kept 3 RX11 D kc A) {R : Int32 × St} {σ : St} (hR : RTi 0 0 p l e r_X11_kept s m args below meth c cX11_kept tM kc ad D A Q .int R.1 R.2) {H : Heap} {locs : List Loc} {ls : Array Slot} (Z : Dy tM kc ad D A s.heap σ H locs) (hl : lv_has ls 3 []) (h : f_X11_kept_28 σ = some R) : W p l e r_X11_kept s m args below meth c H locs 0 0 Q (F0 m 28 ls []) := by
  have hx := C.1.1
  have hb := C.1.2.1
  unfold f_X11_kept_28 at h
  refine lv_iconst (v := (-1)) hx hb dX11_kept_28 (by decide) ?_
  refine lv_goto (tgt := 46) hx hb dX11_kept_29 (by decide) ?_
  obtain rfl := Option.some.inj h
  exact hR _ _ _ _ _ Z dX11_kept_46 rfl
set_option maxRecDepth 20000 in
theorem w_X11_kept_0 {p : Program} {l : Launch} {e : Env} {s : State} {m : MethodId} {args : Array Value} {below : List Frame} {meth : Method} {c : Code} {Q : State → Prop} {D : va_G} {kc : Nat → ClassId} {ad : Nat → Nat} {A : Nat → Prop} (C : Cx eM p s m args c cX11_kept 3 RX11 D kc A) {R : Int32 × St} {x1 : Int32} {x2 : Int32} {σ : St} (hR : RTi 0 0 p l e r_X11_kept s m args below meth c cX11_kept tM kc ad D A Q .int R.1 R.2) {H : Heap} {locs : List Loc} {ls : Array Slot} (Z : Dy tM kc ad D A s.heap σ H locs) (hl : lv_has ls 3 [(0, .ref (ad 0)), (1, .int x1), (2, .int x2)]) (h : f_X11_kept x1 x2 σ = some R) : W p l e r_X11_kept s m args below meth c H locs 0 0 Q (F0 m 0 ls []) := by
  have hx := C.1.1
  have hb := C.1.2.1
  unfold f_X11_kept at h
  refine lv_iload_n hx hb dX11_kept_0 rfl (lv_at hl 1 rfl) ?_
  refine lv_i2l (v := x1.toInt64) hx hb dX11_kept_1 rfl ?_
  refine lv_lconst (v := 0) hx hb dX11_kept_2 (by decide) ?_
  refine lv_aload_n hx hb dX11_kept_3 rfl (lv_at hl 0 rfl) ?_
  refine rg_X11_485 C Z dX11_kept_4 ?_
  refine lv_iconst (v := 1) hx hb dX11_kept_7 (by decide) ?_
  refine lv_isub hx hb dX11_kept_8 ?_
  refine lv_i2l (v := ((gF σ 53) - 1).toInt64) hx hb dX11_kept_9 rfl ?_
  refine g_callSi eM_ok C Z (k_X11_in x1.toInt64 0 (((gF σ 53) - 1).toInt64) σ) lk_X11_233 hl (by decide) rfl (Nat.le_of_ble_eq_true rfl) (rest := []) rfl dX11_kept_10 (fun H locs Z => ?_)
  refine lv_if_eq (tgt := 28) hx hb dX11_kept_13 (by decide) (fun c13 => ?_) (fun c13 => ?_)
  · have h := ip h c13
    exact w_X11_kept_28 C hR Z (lv_sub hl [] rfl) h
  · have h := im h c13
    refine lv_iload_n hx hb dX11_kept_16 rfl (lv_at hl 2 rfl) ?_
    refine lv_i2l (v := x2.toInt64) hx hb dX11_kept_17 rfl ?_
    refine lv_lconst (v := 0) hx hb dX11_kept_18 (by decide) ?_
    refine lv_ldc2 (v := 2) hx hb C.1.2.2.2.1 (C.1.2.2.2.2 _ wDL_X11_255) dX11_kept_19 ?_
    refine g_callSi eM_ok C Z (k_X11_in x2.toInt64 0 2 σ) lk_X11_233 hl (by decide) rfl (Nat.le_of_ble_eq_true rfl) (rest := []) rfl dX11_kept_22 (fun H locs Z => ?_)
    refine lv_if_ne (tgt := 32) hx hb dX11_kept_25 (by decide) (fun c25 => ?_) (fun c25 => ?_)
    · have h := im h c25
      refine lv_aload_n hx hb dX11_kept_32 rfl (lv_at hl 0 rfl) ?_
      refine lv_iload_n hx hb dX11_kept_33 rfl (lv_at hl 1 rfl) ?_
      refine lv_iload_n hx hb dX11_kept_34 rfl (lv_at hl 2 rfl) ?_
      obtain ⟨u3, hu3, h⟩ := ob h
      refine g_callVi eM_ok C Z (k_X11_isKept hu3) lk_X11_488 (by decide) rfl rfl hl (by decide) rfl (Nat.le_of_ble_eq_true rfl) (rest := []) rfl dX11_kept_35 (fun H locs Z => ?_)
      refine lv_if_eq (tgt := 45) hx hb dX11_kept_38 (by decide) (fun c38 => ?_) (fun c38 => ?_)
      · have h := ip h c38
        refine lv_iconst (v := 0) hx hb dX11_kept_45 (by decide) ?_
        obtain rfl := Option.some.inj h
        exact hR _ _ _ _ _ Z dX11_kept_46 rfl
      · have h := im h c38
        refine lv_iconst (v := 1) hx hb dX11_kept_41 (by decide) ?_
        refine lv_goto (tgt := 46) hx hb dX11_kept_42 (by decide) ?_
        obtain rfl := Option.some.inj h
        exact hR _ _ _ _ _ Z dX11_kept_46 rfl
    · have h := ip h c25
      exact w_X11_kept_28 C hR Z (lv_sub hl [] rfl) h
theorem k_X11_kept {l : Launch} {kc : Nat → ClassId} {ad : Nat → Nat} {D : va_G} {x1 : Int32} {x2 : Int32} {σ : St} {R : Int32 × St} (h : f_X11_kept x1 x2 σ = some R) : KC eM tM kc ad D l yX11_kept (.code yX11_kept cX11_kept 3 (some .int)) r_X11_kept [.ref (ad 0), .int x1, .int x2] (some (.int R.1)) σ R.2 := by
  refine g_enter (by decide) (Nat.le_of_ble_eq_true rfl) ?_
  intro p e s m args below meth c A hA C hr hlocks Z ls hl
  have hl : lv_has ls 3 [(0, .ref (ad 0)), (1, .int x1), (2, .int x2)] := hl
  exact w_X11_kept_0 C (g_RTi C.1.1 C.1.2.1 hr hlocks hA)  Z hl h
def r_X11_broken : Room := { frames := 8, cells := 0, slots := 0, locals := 206 }
set_option maxRecDepth 20000 in
theorem w_X11_broken_64 {p : Program} {l : Launch} {e : Env} {s : State} {m : MethodId} {args : Array Value} {below : List Frame} {meth : Method} {c : Code} {Q : State → Prop} {D : va_G} {kc : Nat → ClassId} {ad : Nat → Nat} {A : Nat → Prop} (C : Cx eM p s m args c cX11_broken 5 RX11 D kc A) {R : Int32 × St} {x1 : Int32} {x2 : Int32} {x3 : Int32} {x4 : Int32} {σ : St} (hR : RTi 0 0 p l e r_X11_broken s m args below meth c cX11_broken tM kc ad D A Q .int R.1 R.2) {k26 : Int32 → Int32 → St → Option (Int32 × St)} (hk26 : ∀ (x3 : Int32) (x4 : Int32) (σ : St) (H : Heap) (locs : List Loc) (ls : Array Slot), Dy tM kc ad D A s.heap σ H locs → lv_has ls 5 [(0, .ref (ad 0)), (1, .int x1), (2, .int x2), (3, .int x3), (4, .int x4)] → k26 x3 x4 σ = some R → W p l e r_X11_broken s m args below meth c H locs 0 0 Q (F0 m 26 ls [])) {H : Heap} {locs : List Loc} {ls : Array Slot} (Z : Dy tM kc ad D A s.heap σ H locs) (hl : lv_has ls 5 [(0, .ref (ad 0)), (1, .int x1), (2, .int x2), (3, .int x3), (4, .int x4)]) (h : f_X11_broken_64 x1 x2 x3 x4 σ k26 = some R) : W p l e r_X11_broken s m args below meth c H locs 0 0 Q (F0 m 64 ls []) := by
  have hx := C.1.1
  have hb := C.1.2.1
  unfold f_X11_broken_64 at h
  obtain ⟨v15, ev15, h⟩ := lb h
  refine lv_iinc (v := v15) (lv' := [(4, .int v15), (0, .ref (ad 0)), (1, .int x1), (2, .int x2), (3, .int x3)]) hx hb dX11_broken_64 hl (k := 4) rfl (by rw [ev15]; rfl) (by decide) rfl (fun ls hl => ?_)
  refine lv_goto (tgt := 26) hx hb dX11_broken_67 (by decide) ?_
  exact hk26 _ _ _ _ _ _ Z (lv_sub hl [1, 2, 3, 4, 0] rfl) h
set_option maxRecDepth 20000 in
theorem w_X11_broken_26 {p : Program} {l : Launch} {e : Env} {s : State} {m : MethodId} {args : Array Value} {below : List Frame} {meth : Method} {c : Code} {Q : State → Prop} {D : va_G} {kc : Nat → ClassId} {ad : Nat → Nat} {A : Nat → Prop} (C : Cx eM p s m args c cX11_broken 5 RX11 D kc A) {R : Int32 × St} {x1 : Int32} {x2 : Int32} (hR : RTi 0 0 p l e r_X11_broken s m args below meth c cX11_broken tM kc ad D A Q .int R.1 R.2) : ∀ (n : Nat) (x3 : Int32) (x4 : Int32) (σ : St) (H : Heap) (locs : List Loc) (ls : Array Slot), Dy tM kc ad D A s.heap σ H locs → lv_has ls 5 [(0, .ref (ad 0)), (1, .int x1), (2, .int x2), (3, .int x3), (4, .int x4)] → f_X11_broken_26 x1 x2 n x3 x4 σ = some R → W p l e r_X11_broken s m args below meth c H locs 0 0 Q (F0 m 26 ls []) := by
  have hx := C.1.1
  have hb := C.1.2.1
  intro n
  induction n with
  | zero =>
    intro x3 x4 σ H locs ls Z hl h
    exact absurd (show none = some R from h) (by simp)
  | succ n ih =>
    intro x3 x4 σ H locs ls Z hl h
    rw [f_X11_broken_26] at h
    refine lv_iload hx hb dX11_broken_26 (lv_at hl 4 rfl) ?_
    refine lv_aload_n hx hb dX11_broken_28 rfl (lv_at hl 0 rfl) ?_
    refine rg_X11_485 C Z dX11_broken_29 ?_
    refine lv_icmp_ge (tgt := 70) hx hb dX11_broken_32 (by decide) (fun c32 => ?_) (fun c32 => ?_)
    · have h := ip h c32
      refine lv_iload_n hx hb dX11_broken_70 rfl (lv_at hl 3 rfl) ?_
      obtain rfl := Option.some.inj h
      exact hR _ _ _ _ _ Z dX11_broken_71 rfl
    · have h := im h c32
      refine lv_aload_n hx hb dX11_broken_35 rfl (lv_at hl 0 rfl) ?_
      refine rg_X11_13 C Z dX11_broken_36 ?_
      refine lv_aload_n hx hb dX11_broken_39 rfl (lv_at hl 0 rfl) ?_
      refine rg_X11_139 C Z dX11_broken_40 ?_
      refine lv_iload hx hb dX11_broken_43 (lv_at hl 4 rfl) ?_
      obtain ⟨v11, hv11, h⟩ := ob h
      refine g_iald C Z iaM34 hv11 dX11_broken_45 ?_
      obtain ⟨v12, hv12, h⟩ := ob h
      refine g_iald C Z iaM2 hv12 dX11_broken_46 ?_
      refine lv_iload_n hx hb dX11_broken_47 rfl (lv_at hl 1 rfl) ?_
      refine lv_icmp_ne (tgt := 64) hx hb dX11_broken_48 (by decide) (fun c48 => ?_) (fun c48 => ?_)
      · have h := im h c48
        exact w_X11_broken_64 C hR ih Z (lv_sub hl [0, 1, 2, 3, 4] rfl) h
      · have h := ip h c48
        refine lv_aload_n hx hb dX11_broken_51 rfl (lv_at hl 0 rfl) ?_
        refine lv_iload hx hb dX11_broken_52 (lv_at hl 4 rfl) ?_
        refine lv_iload_n hx hb dX11_broken_54 rfl (lv_at hl 2 rfl) ?_
        obtain ⟨u13, hu13, h⟩ := ob h
        refine g_callVi eM_ok C Z (k_X11_isKept hu13) lk_X11_488 (by decide) rfl rfl hl (by decide) rfl (Nat.le_of_ble_eq_true rfl) (rest := []) rfl dX11_broken_55 (fun H locs Z => ?_)
        refine lv_if_ne (tgt := 64) hx hb dX11_broken_58 (by decide) (fun c58 => ?_) (fun c58 => ?_)
        · have h := im h c58
          exact w_X11_broken_64 C hR ih Z (lv_sub hl [0, 1, 2, 3, 4] rfl) h
        · have h := ip h c58
          obtain ⟨v14, ev14, h⟩ := lb h
          refine lv_iinc (v := v14) (lv' := [(3, .int v14), (0, .ref (ad 0)), (1, .int x1), (2, .int x2), (4, .int x4)]) hx hb dX11_broken_61 hl (k := 3) rfl (by rw [ev14]; rfl) (by decide) rfl (fun ls hl => ?_)
          exact w_X11_broken_64 C hR ih Z (lv_sub hl [1, 2, 3, 0, 4] rfl) h
set_option maxRecDepth 20000 in
theorem w_X11_broken_0 {p : Program} {l : Launch} {e : Env} {s : State} {m : MethodId} {args : Array Value} {below : List Frame} {meth : Method} {c : Code} {Q : State → Prop} {D : va_G} {kc : Nat → ClassId} {ad : Nat → Nat} {A : Nat → Prop} (C : Cx eM p s m args c cX11_broken 5 RX11 D kc A) {R : Int32 × St} {x1 : Int32} {x2 : Int32} {σ : St} (hR : RTi 0 0 p l e r_X11_broken s m args below meth c cX11_broken tM kc ad D A Q .int R.1 R.2) {H : Heap} {locs : List Loc} {ls : Array Slot} (Z : Dy tM kc ad D A s.heap σ H locs) (hl : lv_has ls 5 [(0, .ref (ad 0)), (1, .int x1), (2, .int x2)]) (h : f_X11_broken x1 x2 σ = some R) : W p l e r_X11_broken s m args below meth c H locs 0 0 Q (F0 m 0 ls []) := by
  have hx := C.1.1
  have hb := C.1.2.1
  unfold f_X11_broken at h
  refine lv_iload_n hx hb dX11_broken_0 rfl (lv_at hl 1 rfl) ?_
  refine g_callSi eM_ok C Z (k_X11_isSide x1 σ) lk_X11_251 hl (by decide) rfl (Nat.le_of_ble_eq_true rfl) (rest := []) rfl dX11_broken_1 (fun H locs Z => ?_)
  refine lv_if_eq (tgt := 19) hx hb dX11_broken_4 (by decide) (fun c4 => ?_) (fun c4 => ?_)
  · have h := ip h c4
    refine lv_iconst (v := (-1)) hx hb dX11_broken_19 (by decide) ?_
    obtain rfl := Option.some.inj h
    exact hR _ _ _ _ _ Z dX11_broken_20 rfl
  · have h := im h c4
    refine lv_iload_n hx hb dX11_broken_7 rfl (lv_at hl 2 rfl) ?_
    refine lv_i2l (v := x2.toInt64) hx hb dX11_broken_8 rfl ?_
    refine lv_lconst (v := 0) hx hb dX11_broken_9 (by decide) ?_
    refine lv_ldc2 (v := 2) hx hb C.1.2.2.2.1 (C.1.2.2.2.2 _ wDL_X11_255) dX11_broken_10 ?_
    refine g_callSi eM_ok C Z (k_X11_in x2.toInt64 0 2 σ) lk_X11_233 hl (by decide) rfl (Nat.le_of_ble_eq_true rfl) (rest := []) rfl dX11_broken_13 (fun H locs Z => ?_)
    refine lv_if_ne (tgt := 21) hx hb dX11_broken_16 (by decide) (fun c16 => ?_) (fun c16 => ?_)
    · have h := im h c16
      refine lv_iconst (v := 0) hx hb dX11_broken_21 (by decide) ?_
      refine lv_istore_n (lv' := [(3, .int 0), (0, .ref (ad 0)), (1, .int x1), (2, .int x2)]) hx hb dX11_broken_22 rfl hl (by decide) rfl (fun ls hl => ?_)
      refine lv_iconst (v := 0) hx hb dX11_broken_23 (by decide) ?_
      refine lv_istore (lv' := [(4, .int 0), (3, .int 0), (0, .ref (ad 0)), (1, .int x1), (2, .int x2)]) hx hb dX11_broken_24 hl (by decide) rfl (fun ls hl => ?_)
      exact w_X11_broken_26 C hR _ _ _ _ _ _ _ Z (lv_sub hl [2, 3, 4, 1, 0] rfl) h
    · have h := ip h c16
      refine lv_iconst (v := (-1)) hx hb dX11_broken_19 (by decide) ?_
      obtain rfl := Option.some.inj h
      exact hR _ _ _ _ _ Z dX11_broken_20 rfl
theorem k_X11_broken {l : Launch} {kc : Nat → ClassId} {ad : Nat → Nat} {D : va_G} {x1 : Int32} {x2 : Int32} {σ : St} {R : Int32 × St} (h : f_X11_broken x1 x2 σ = some R) : KC eM tM kc ad D l yX11_broken (.code yX11_broken cX11_broken 5 (some .int)) r_X11_broken [.ref (ad 0), .int x1, .int x2] (some (.int R.1)) σ R.2 := by
  refine g_enter (by decide) (Nat.le_of_ble_eq_true rfl) ?_
  intro p e s m args below meth c A hA C hr hlocks Z ls hl
  have hl : lv_has ls 5 [(0, .ref (ad 0)), (1, .int x1), (2, .int x2)] := hl
  exact w_X11_broken_0 C (g_RTi C.1.1 C.1.2.1 hr hlocks hA)  Z hl h
def r_X11_stepTo : Room := { frames := 1, cells := 0, slots := 0, locals := 25 }
set_option maxRecDepth 20000 in
theorem w_X11_stepTo_100 {p : Program} {l : Launch} {e : Env} {s : State} {m : MethodId} {args : Array Value} {below : List Frame} {meth : Method} {c : Code} {Q : State → Prop} {D : va_G} {kc : Nat → ClassId} {ad : Nat → Nat} {A : Nat → Prop} (C : Cx eM p s m args c cX11_stepTo 5 RX11 D kc A) {R : Int32} {σ : St} (hR : RTi 0 0 p l e r_X11_stepTo s m args below meth c cX11_stepTo tM kc ad D A Q .int R σ) {H : Heap} {locs : List Loc} {ls : Array Slot} (Z : Dy tM kc ad D A s.heap σ H locs) (hl : lv_has ls 5 []) (h : f_X11_stepTo_100 σ = some R) : W p l e r_X11_stepTo s m args below meth c H locs 0 0 Q (F0 m 100 ls []) := by
  have hx := C.1.1
  have hb := C.1.2.1
  unfold f_X11_stepTo_100 at h
  refine lv_iconst (v := (-1)) hx hb dX11_stepTo_100 (by decide) ?_
  obtain rfl := Option.some.inj h
  exact hR _ _ _ _ _ Z dX11_stepTo_101 rfl
set_option maxRecDepth 20000 in
theorem w_X11_stepTo_52 {p : Program} {l : Launch} {e : Env} {s : State} {m : MethodId} {args : Array Value} {below : List Frame} {meth : Method} {c : Code} {Q : State → Prop} {D : va_G} {kc : Nat → ClassId} {ad : Nat → Nat} {A : Nat → Prop} (C : Cx eM p s m args c cX11_stepTo 5 RX11 D kc A) {R : Int32} {x3 : Int32} {y0 : Int32} {y1 : Int32} {σ : St} (hR : RTi 0 0 p l e r_X11_stepTo s m args below meth c cX11_stepTo tM kc ad D A Q .int R σ) {H : Heap} {locs : List Loc} {ls : Array Slot} (Z : Dy tM kc ad D A s.heap σ H locs) (hl : lv_has ls 5 [(0, .ref (ad 0)), (3, .int x3)]) (h : f_X11_stepTo_52 x3 y0 y1 σ = some R) : W p l e r_X11_stepTo s m args below meth c H locs 0 0 Q (F0 m 52 ls [.int y1, .int y0]) := by
  have hx := C.1.1
  have hb := C.1.2.1
  unfold f_X11_stepTo_52 at h
  refine lv_iadd hx hb dX11_stepTo_52 ?_
  obtain ⟨v12, ev12, h⟩ := lb h
  refine tn_i ev12 ?_
  refine lv_istore (lv' := [(4, .int v12), (0, .ref (ad 0)), (3, .int x3)]) hx hb dX11_stepTo_53 hl (by decide) rfl (fun ls hl => ?_)
  refine lv_iload_n hx hb dX11_stepTo_55 rfl (lv_at hl 2 rfl) ?_
  refine lv_i2l (v := x3.toInt64) hx hb dX11_stepTo_56 rfl ?_
  refine lv_lconst (v := 0) hx hb dX11_stepTo_57 (by decide) ?_
  refine lv_aload_n hx hb dX11_stepTo_58 rfl (lv_at hl 1 rfl) ?_
  refine rg_X11_491 C Z dX11_stepTo_59 ?_
  refine lv_iconst (v := 1) hx hb dX11_stepTo_62 (by decide) ?_
  refine lv_isub hx hb dX11_stepTo_63 ?_
  refine lv_i2l (v := ((gF σ 62) - 1).toInt64) hx hb dX11_stepTo_64 rfl ?_
  refine g_callSi eM_ok C Z (k_X11_in x3.toInt64 0 (((gF σ 62) - 1).toInt64) σ) lk_X11_233 hl (by decide) rfl (Nat.le_of_ble_eq_true rfl) (rest := []) rfl dX11_stepTo_65 (fun H locs Z => ?_)
  refine lv_if_eq (tgt := 100) hx hb dX11_stepTo_68 (by decide) (fun c68 => ?_) (fun c68 => ?_)
  · have h := ip h c68
    exact w_X11_stepTo_100 C hR Z (lv_sub hl [] rfl) h
  · have h := im h c68
    refine lv_iload hx hb dX11_stepTo_71 (lv_at hl 0 rfl) ?_
    refine lv_i2l (v := v12.toInt64) hx hb dX11_stepTo_73 rfl ?_
    refine lv_lconst (v := 0) hx hb dX11_stepTo_74 (by decide) ?_
    refine lv_aload_n hx hb dX11_stepTo_75 rfl (lv_at hl 1 rfl) ?_
    refine rg_X11_494 C Z dX11_stepTo_76 ?_
    refine lv_iconst (v := 1) hx hb dX11_stepTo_79 (by decide) ?_
    refine lv_isub hx hb dX11_stepTo_80 ?_
    refine lv_i2l (v := ((gF σ 63) - 1).toInt64) hx hb dX11_stepTo_81 rfl ?_
    refine g_callSi eM_ok C Z (k_X11_in v12.toInt64 0 (((gF σ 63) - 1).toInt64) σ) lk_X11_233 hl (by decide) rfl (Nat.le_of_ble_eq_true rfl) (rest := []) rfl dX11_stepTo_82 (fun H locs Z => ?_)
    refine lv_if_eq (tgt := 100) hx hb dX11_stepTo_85 (by decide) (fun c85 => ?_) (fun c85 => ?_)
    · have h := ip h c85
      exact w_X11_stepTo_100 C hR Z (lv_sub hl [] rfl) h
    · have h := im h c85
      refine lv_aload_n hx hb dX11_stepTo_88 rfl (lv_at hl 1 rfl) ?_
      refine rg_X11_491 C Z dX11_stepTo_89 ?_
      refine lv_iload hx hb dX11_stepTo_92 (lv_at hl 0 rfl) ?_
      refine lv_imul hx hb dX11_stepTo_94 ?_
      refine lv_iload_n hx hb dX11_stepTo_95 rfl (lv_at hl 2 rfl) ?_
      refine lv_iadd hx hb dX11_stepTo_96 ?_
      refine lv_goto (tgt := 101) hx hb dX11_stepTo_97 (by decide) ?_
      obtain rfl := Option.some.inj h
      exact hR _ _ _ _ _ Z dX11_stepTo_101 rfl
set_option maxRecDepth 20000 in
theorem w_X11_stepTo_25 {p : Program} {l : Launch} {e : Env} {s : State} {m : MethodId} {args : Array Value} {below : List Frame} {meth : Method} {c : Code} {Q : State → Prop} {D : va_G} {kc : Nat → ClassId} {ad : Nat → Nat} {A : Nat → Prop} (C : Cx eM p s m args c cX11_stepTo 5 RX11 D kc A) {R : Int32} {x1 : Int32} {x2 : Int32} {y0 : Int32} {y1 : Int32} {σ : St} (hR : RTi 0 0 p l e r_X11_stepTo s m args below meth c cX11_stepTo tM kc ad D A Q .int R σ) {H : Heap} {locs : List Loc} {ls : Array Slot} (Z : Dy tM kc ad D A s.heap σ H locs) (hl : lv_has ls 5 [(0, .ref (ad 0)), (1, .int x1), (2, .int x2)]) (h : f_X11_stepTo_25 x1 x2 y0 y1 σ = some R) : W p l e r_X11_stepTo s m args below meth c H locs 0 0 Q (F0 m 25 ls [.int y1, .int y0]) := by
  have hx := C.1.1
  have hb := C.1.2.1
  unfold f_X11_stepTo_25 at h
  refine lv_iadd hx hb dX11_stepTo_25 ?_
  obtain ⟨v10, ev10, h⟩ := lb h
  refine tn_i ev10 ?_
  refine lv_istore_n (lv' := [(3, .int v10), (0, .ref (ad 0)), (1, .int x1), (2, .int x2)]) hx hb dX11_stepTo_26 rfl hl (by decide) rfl (fun ls hl => ?_)
  refine lv_iload_n hx hb dX11_stepTo_27 rfl (lv_at hl 2 rfl) ?_
  refine lv_aload_n hx hb dX11_stepTo_28 rfl (lv_at hl 1 rfl) ?_
  refine rg_X11_491 C Z dX11_stepTo_29 ?_
  obtain ⟨v11, hv11, h⟩ := ob h
  obtain ⟨zv11, ev11⟩ := dvi_in hv11
  refine lv_idiv hx hb dX11_stepTo_32 zv11 ?_
  refine tn_i ev11 ?_
  refine lv_iload_n hx hb dX11_stepTo_33 rfl (lv_at hl 3 rfl) ?_
  refine lv_iconst (v := 3) hx hb dX11_stepTo_34 (by decide) ?_
  refine lv_icmp_ne (tgt := 42) hx hb dX11_stepTo_35 (by decide) (fun c35 => ?_) (fun c35 => ?_)
  · have h := im h c35
    refine lv_iload_n hx hb dX11_stepTo_42 rfl (lv_at hl 3 rfl) ?_
    refine lv_iconst (v := 4) hx hb dX11_stepTo_43 (by decide) ?_
    refine lv_icmp_ne (tgt := 51) hx hb dX11_stepTo_44 (by decide) (fun c44 => ?_) (fun c44 => ?_)
    · have h := im h c44
      refine lv_iconst (v := 0) hx hb dX11_stepTo_51 (by decide) ?_
      exact w_X11_stepTo_52 C hR Z (lv_sub hl [1, 0] rfl) h
    · have h := ip h c44
      refine lv_iconst (v := (-1)) hx hb dX11_stepTo_47 (by decide) ?_
      refine lv_goto (tgt := 52) hx hb dX11_stepTo_48 (by decide) ?_
      exact w_X11_stepTo_52 C hR Z (lv_sub hl [1, 0] rfl) h
  · have h := ip h c35
    refine lv_iconst (v := 1) hx hb dX11_stepTo_38 (by decide) ?_
    refine lv_goto (tgt := 52) hx hb dX11_stepTo_39 (by decide) ?_
    exact w_X11_stepTo_52 C hR Z (lv_sub hl [1, 0] rfl) h
set_option maxRecDepth 20000 in
theorem w_X11_stepTo_0 {p : Program} {l : Launch} {e : Env} {s : State} {m : MethodId} {args : Array Value} {below : List Frame} {meth : Method} {c : Code} {Q : State → Prop} {D : va_G} {kc : Nat → ClassId} {ad : Nat → Nat} {A : Nat → Prop} (C : Cx eM p s m args c cX11_stepTo 5 RX11 D kc A) {R : Int32} {x1 : Int32} {x2 : Int32} {σ : St} (hR : RTi 0 0 p l e r_X11_stepTo s m args below meth c cX11_stepTo tM kc ad D A Q .int R σ) {H : Heap} {locs : List Loc} {ls : Array Slot} (Z : Dy tM kc ad D A s.heap σ H locs) (hl : lv_has ls 5 [(0, .ref (ad 0)), (1, .int x1), (2, .int x2)]) (h : f_X11_stepTo x1 x2 σ = some R) : W p l e r_X11_stepTo s m args below meth c H locs 0 0 Q (F0 m 0 ls []) := by
  have hx := C.1.1
  have hb := C.1.2.1
  unfold f_X11_stepTo at h
  refine lv_iload_n hx hb dX11_stepTo_0 rfl (lv_at hl 1 rfl) ?_
  refine lv_aload_n hx hb dX11_stepTo_1 rfl (lv_at hl 0 rfl) ?_
  refine rg_X11_491 C Z dX11_stepTo_2 ?_
  obtain ⟨v9, hv9, h⟩ := ob h
  obtain ⟨zv9, ev9⟩ := rmi_in hv9
  refine lv_irem hx hb dX11_stepTo_5 zv9 ?_
  refine tn_i ev9 ?_
  refine lv_iload_n hx hb dX11_stepTo_6 rfl (lv_at hl 2 rfl) ?_
  refine lv_iconst (v := 1) hx hb dX11_stepTo_7 (by decide) ?_
  refine lv_icmp_ne (tgt := 15) hx hb dX11_stepTo_8 (by decide) (fun c8 => ?_) (fun c8 => ?_)
  · have h := im h c8
    refine lv_iload_n hx hb dX11_stepTo_15 rfl (lv_at hl 2 rfl) ?_
    refine lv_iconst (v := 2) hx hb dX11_stepTo_16 (by decide) ?_
    refine lv_icmp_ne (tgt := 24) hx hb dX11_stepTo_17 (by decide) (fun c17 => ?_) (fun c17 => ?_)
    · have h := im h c17
      refine lv_iconst (v := 0) hx hb dX11_stepTo_24 (by decide) ?_
      exact w_X11_stepTo_25 C hR Z (lv_sub hl [0, 1, 2] rfl) h
    · have h := ip h c17
      refine lv_iconst (v := (-1)) hx hb dX11_stepTo_20 (by decide) ?_
      refine lv_goto (tgt := 25) hx hb dX11_stepTo_21 (by decide) ?_
      exact w_X11_stepTo_25 C hR Z (lv_sub hl [0, 1, 2] rfl) h
  · have h := ip h c8
    refine lv_iconst (v := 1) hx hb dX11_stepTo_11 (by decide) ?_
    refine lv_goto (tgt := 25) hx hb dX11_stepTo_12 (by decide) ?_
    exact w_X11_stepTo_25 C hR Z (lv_sub hl [0, 1, 2] rfl) h
theorem k_X11_stepTo {l : Launch} {kc : Nat → ClassId} {ad : Nat → Nat} {D : va_G} {x1 : Int32} {x2 : Int32} {σ : St} {R : Int32} (h : f_X11_stepTo x1 x2 σ = some R) : KC eM tM kc ad D l yX11_stepTo (.code yX11_stepTo cX11_stepTo 5 (some .int)) r_X11_stepTo [.ref (ad 0), .int x1, .int x2] (some (.int R)) σ σ := by
  refine g_enter (by decide) (Nat.le_of_ble_eq_true rfl) ?_
  intro p e s m args below meth c A hA C hr hlocks Z ls hl
  have hl : lv_has ls 5 [(0, .ref (ad 0)), (1, .int x1), (2, .int x2)] := hl
  exact w_X11_stepTo_0 C (g_RTi C.1.1 C.1.2.1 hr hlocks hA)  Z hl h
def r_X11_state : Room := { frames := 0, cells := 0, slots := 0, locals := 0 }
set_option maxRecDepth 20000 in
theorem w_X11_state_0 {p : Program} {l : Launch} {e : Env} {s : State} {m : MethodId} {args : Array Value} {below : List Frame} {meth : Method} {c : Code} {Q : State → Prop} {D : va_G} {kc : Nat → ClassId} {ad : Nat → Nat} {A : Nat → Prop} (C : Cx eM p s m args c cX11_state 3 RX11 D kc A) {R : Int32} {x0 : Int32} {x1 : Int32} {x2 : Int32} {σ : St} (hR : RTi 0 0 p l e r_X11_state s m args below meth c cX11_state tM kc ad D A Q .int R σ) {H : Heap} {locs : List Loc} {ls : Array Slot} (Z : Dy tM kc ad D A s.heap σ H locs) (hl : lv_has ls 3 [(0, .int x0), (1, .int x1), (2, .int x2)]) (h : f_X11_state x0 x1 x2 = R) : W p l e r_X11_state s m args below meth c H locs 0 0 Q (F0 m 0 ls []) := by
  have hx := C.1.1
  have hb := C.1.2.1
  unfold f_X11_state at h
  refine lv_bipush (v := 25) hx hb dX11_state_0 (by decide) ?_
  refine lv_bipush (v := 26) hx hb dX11_state_2 (by decide) ?_
  refine lv_iload_n hx hb dX11_state_4 rfl (lv_at hl 1 rfl) ?_
  refine lv_imul hx hb dX11_state_5 ?_
  refine lv_iload_n hx hb dX11_state_6 rfl (lv_at hl 2 rfl) ?_
  obtain ⟨v1, ev1, h⟩ := lb h
  have hj : W p l e r_X11_state s m args below meth c H locs 0 0 Q (F0 m 16 ls [.int v1, .int (26 * x1), .int 25]) := by
    refine lv_iadd hx hb dX11_state_16 ?_
    refine lv_imul hx hb dX11_state_17 ?_
    refine lv_iload_n hx hb dX11_state_18 rfl (lv_at hl 0 rfl) ?_
    refine lv_iadd hx hb dX11_state_19 ?_
    subst h
    exact hR _ _ _ _ _ Z dX11_state_20 rfl
  refine lv_if_ge (tgt := 15) hx hb dX11_state_7 (by decide) (fun c7 => ?_) (fun c7 => ?_)
  · rw [if_pos c7] at ev1
    refine lv_iload_n hx hb dX11_state_15 rfl (lv_at hl 2 rfl) ?_
    exact tn_i ev1 hj
  · rw [if_neg c7] at ev1
    refine lv_bipush (v := 25) hx hb dX11_state_10 (by decide) ?_
    refine lv_goto (tgt := 16) hx hb dX11_state_12 (by decide) ?_
    exact tn_i ev1 hj
theorem k_X11_state {l : Launch} {kc : Nat → ClassId} {ad : Nat → Nat} {D : va_G} (x0 : Int32) (x1 : Int32) (x2 : Int32) (σ : St) : KC eM tM kc ad D l yX11_state (.code yX11_state cX11_state 3 (some .int)) r_X11_state [.int x0, .int x1, .int x2] (some (.int (f_X11_state x0 x1 x2))) σ σ := by
  refine g_enter (by decide) (Nat.le_of_ble_eq_true rfl) ?_
  intro p e s m args below meth c A hA C hr hlocks Z ls hl
  have hl : lv_has ls 3 [(0, .int x0), (1, .int x1), (2, .int x2)] := hl
  exact w_X11_state_0 C (g_RTi C.1.1 C.1.2.1 hr hlocks hA)  Z hl rfl
def r_X11_isLost : Room := { frames := 2, cells := 0, slots := 0, locals := 49 }
set_option maxRecDepth 20000 in
theorem w_X11_isLost_46 {p : Program} {l : Launch} {e : Env} {s : State} {m : MethodId} {args : Array Value} {below : List Frame} {meth : Method} {c : Code} {Q : State → Prop} {D : va_G} {kc : Nat → ClassId} {ad : Nat → Nat} {A : Nat → Prop} (C : Cx eM p s m args c cX11_isLost 6 RX11 D kc A) {R : Int32} {x1 : Int32} {x2 : Int32} {x3 : Int32} {x4 : Int32} {σ : St} (hR : RTi 0 0 p l e r_X11_isLost s m args below meth c cX11_isLost tM kc ad D A Q .boolean R σ) {k3 : Int32 → Option (Int32)} (hk3 : ∀ (x4 : Int32) (H : Heap) (locs : List Loc) (ls : Array Slot), Dy tM kc ad D A s.heap σ H locs → lv_has ls 6 [(0, .ref (ad 0)), (1, .int x1), (2, .int x2), (3, .int x3), (4, .int x4)] → k3 x4 = some R → W p l e r_X11_isLost s m args below meth c H locs 0 0 Q (F0 m 3 ls [])) {H : Heap} {locs : List Loc} {ls : Array Slot} (Z : Dy tM kc ad D A s.heap σ H locs) (hl : lv_has ls 6 [(0, .ref (ad 0)), (1, .int x1), (2, .int x2), (3, .int x3), (4, .int x4)]) (h : f_X11_isLost_46 x1 x2 x3 x4 σ k3 = some R) : W p l e r_X11_isLost s m args below meth c H locs 0 0 Q (F0 m 46 ls []) := by
  have hx := C.1.1
  have hb := C.1.2.1
  unfold f_X11_isLost_46 at h
  obtain ⟨v9, ev9, h⟩ := lb h
  refine lv_iinc (v := v9) (lv' := [(4, .int v9), (0, .ref (ad 0)), (1, .int x1), (2, .int x2), (3, .int x3)]) hx hb dX11_isLost_46 hl (k := 4) rfl (by rw [ev9]; rfl) (by decide) rfl (fun ls hl => ?_)
  refine lv_goto (tgt := 3) hx hb dX11_isLost_49 (by decide) ?_
  exact hk3 _ _ _ _ Z (lv_sub hl [1, 2, 3, 4, 0] rfl) h
set_option maxRecDepth 20000 in
theorem w_X11_isLost_3 {p : Program} {l : Launch} {e : Env} {s : State} {m : MethodId} {args : Array Value} {below : List Frame} {meth : Method} {c : Code} {Q : State → Prop} {D : va_G} {kc : Nat → ClassId} {ad : Nat → Nat} {A : Nat → Prop} (C : Cx eM p s m args c cX11_isLost 6 RX11 D kc A) {R : Int32} {x1 : Int32} {x2 : Int32} {x3 : Int32} {σ : St} (hR : RTi 0 0 p l e r_X11_isLost s m args below meth c cX11_isLost tM kc ad D A Q .boolean R σ) : ∀ (n : Nat) (x4 : Int32) (H : Heap) (locs : List Loc) (ls : Array Slot), Dy tM kc ad D A s.heap σ H locs → lv_has ls 6 [(0, .ref (ad 0)), (1, .int x1), (2, .int x2), (3, .int x3), (4, .int x4)] → f_X11_isLost_3 x1 x2 x3 σ n x4 = some R → W p l e r_X11_isLost s m args below meth c H locs 0 0 Q (F0 m 3 ls []) := by
  have hx := C.1.1
  have hb := C.1.2.1
  intro n
  induction n with
  | zero =>
    intro x4 H locs ls Z hl h
    exact absurd (show none = some R from h) (by simp)
  | succ n ih =>
    intro x4 H locs ls Z hl h
    rw [f_X11_isLost_3] at h
    refine lv_iload hx hb dX11_isLost_3 (lv_at hl 4 rfl) ?_
    refine lv_iconst (v := 5) hx hb dX11_isLost_5 (by decide) ?_
    refine lv_icmp_ge (tgt := 52) hx hb dX11_isLost_6 (by decide) (fun c6 => ?_) (fun c6 => ?_)
    · have h := ip h c6
      refine lv_iconst (v := 1) hx hb dX11_isLost_52 (by decide) ?_
      obtain rfl := Option.some.inj h
      exact hR _ _ _ _ _ Z dX11_isLost_53 rfl
    · have h := im h c6
      refine lv_aload_n hx hb dX11_isLost_9 rfl (lv_at hl 0 rfl) ?_
      refine lv_iload_n hx hb dX11_isLost_10 rfl (lv_at hl 1 rfl) ?_
      refine lv_iload hx hb dX11_isLost_11 (lv_at hl 4 rfl) ?_
      obtain ⟨v7, hv7, h⟩ := ob h
      refine g_callVi eM_ok C Z (k_X11_stepTo hv7) lk_X11_497 (by decide) rfl rfl hl (by decide) rfl (Nat.le_of_ble_eq_true rfl) (rest := []) rfl dX11_isLost_13 (fun H locs Z => ?_)
      refine lv_istore (lv' := [(5, .int v7), (0, .ref (ad 0)), (1, .int x1), (2, .int x2), (3, .int x3), (4, .int x4)]) hx hb dX11_isLost_16 hl (by decide) rfl (fun ls hl => ?_)
      refine lv_iload hx hb dX11_isLost_18 (lv_at hl 0 rfl) ?_
      refine lv_if_lt (tgt := 46) hx hb dX11_isLost_20 (by decide) (fun c20 => ?_) (fun c20 => ?_)
      · have h := ip h c20
        exact w_X11_isLost_46 C hR ih Z (lv_sub hl [1, 2, 3, 4, 5] rfl) h
      · have h := im h c20
        refine lv_iload hx hb dX11_isLost_23 (lv_at hl 0 rfl) ?_
        refine lv_iload_n hx hb dX11_isLost_25 rfl (lv_at hl 3 rfl) ?_
        refine lv_icmp_eq (tgt := 46) hx hb dX11_isLost_26 (by decide) (fun c26 => ?_) (fun c26 => ?_)
        · have h := ip h c26
          exact w_X11_isLost_46 C hR ih Z (lv_sub hl [1, 2, 3, 4, 5] rfl) h
        · have h := im h c26
          refine lv_aload_n hx hb dX11_isLost_29 rfl (lv_at hl 1 rfl) ?_
          refine rg_X11_154 C Z dX11_isLost_30 ?_
          refine lv_iload hx hb dX11_isLost_33 (lv_at hl 0 rfl) ?_
          refine lv_iload_n hx hb dX11_isLost_35 rfl (lv_at hl 3 rfl) ?_
          refine lv_iload_n hx hb dX11_isLost_36 rfl (lv_at hl 4 rfl) ?_
          refine g_callSi eM_ok C Z (k_X11_state v7 x2 x3 σ) lk_X11_500 hl (by decide) rfl (Nat.le_of_ble_eq_true rfl) (rest := [.ref (ad 39)]) rfl dX11_isLost_37 (fun H locs Z => ?_)
          obtain ⟨v8, hv8, h⟩ := ob h
          refine g_zald C Z iaM39 hv8 dX11_isLost_40 ?_
          refine lv_if_ne (tgt := 46) hx hb dX11_isLost_41 (by decide) (fun c41 => ?_) (fun c41 => ?_)
          · have h := im h c41
            exact w_X11_isLost_46 C hR ih Z (lv_sub hl [1, 2, 3, 4, 5] rfl) h
          · have h := ip h c41
            refine lv_iconst (v := 0) hx hb dX11_isLost_44 (by decide) ?_
            obtain rfl := Option.some.inj h
            exact hR _ _ _ _ _ Z dX11_isLost_45 rfl
set_option maxRecDepth 20000 in
theorem w_X11_isLost_0 {p : Program} {l : Launch} {e : Env} {s : State} {m : MethodId} {args : Array Value} {below : List Frame} {meth : Method} {c : Code} {Q : State → Prop} {D : va_G} {kc : Nat → ClassId} {ad : Nat → Nat} {A : Nat → Prop} (C : Cx eM p s m args c cX11_isLost 6 RX11 D kc A) {R : Int32} {x1 : Int32} {x2 : Int32} {x3 : Int32} {σ : St} (hR : RTi 0 0 p l e r_X11_isLost s m args below meth c cX11_isLost tM kc ad D A Q .boolean R σ) {H : Heap} {locs : List Loc} {ls : Array Slot} (Z : Dy tM kc ad D A s.heap σ H locs) (hl : lv_has ls 6 [(0, .ref (ad 0)), (1, .int x1), (2, .int x2), (3, .int x3)]) (h : f_X11_isLost x1 x2 x3 σ = some R) : W p l e r_X11_isLost s m args below meth c H locs 0 0 Q (F0 m 0 ls []) := by
  have hx := C.1.1
  have hb := C.1.2.1
  unfold f_X11_isLost at h
  refine lv_iconst (v := 0) hx hb dX11_isLost_0 (by decide) ?_
  refine lv_istore (lv' := [(4, .int 0), (0, .ref (ad 0)), (1, .int x1), (2, .int x2), (3, .int x3)]) hx hb dX11_isLost_1 hl (by decide) rfl (fun ls hl => ?_)
  exact w_X11_isLost_3 C hR _ _ _ _ _ Z (lv_sub hl [1, 2, 3, 4, 0] rfl) h
theorem k_X11_isLost {l : Launch} {kc : Nat → ClassId} {ad : Nat → Nat} {D : va_G} {x1 : Int32} {x2 : Int32} {x3 : Int32} {σ : St} {R : Int32} (h : f_X11_isLost x1 x2 x3 σ = some R) : KC eM tM kc ad D l yX11_isLost (.code yX11_isLost cX11_isLost 6 (some .boolean)) r_X11_isLost [.ref (ad 0), .int x1, .int x2, .int x3] (some (.int R)) σ σ := by
  refine g_enter (by decide) (Nat.le_of_ble_eq_true rfl) ?_
  intro p e s m args below meth c A hA C hr hlocks Z ls hl
  have hl : lv_has ls 6 [(0, .ref (ad 0)), (1, .int x1), (2, .int x2), (3, .int x3)] := hl
  exact w_X11_isLost_0 C (g_RTi C.1.1 C.1.2.1 hr hlocks hA)  Z hl h
def r_X11_isHooked : Room := { frames := 3, cells := 0, slots := 0, locals := 74 }
set_option maxRecDepth 20000 in
theorem w_X11_isHooked_61 {p : Program} {l : Launch} {e : Env} {s : State} {m : MethodId} {args : Array Value} {below : List Frame} {meth : Method} {c : Code} {Q : State → Prop} {D : va_G} {kc : Nat → ClassId} {ad : Nat → Nat} {A : Nat → Prop} (C : Cx eM p s m args c cX11_isHooked 6 RX11 D kc A) {R : Int32} {x1 : Int32} {x2 : Int32} {x3 : Int32} {x4 : Int32} {σ : St} (hR : RTi 0 0 p l e r_X11_isHooked s m args below meth c cX11_isHooked tM kc ad D A Q .boolean R σ) {k22 : Int32 → Option (Int32)} (hk22 : ∀ (x4 : Int32) (H : Heap) (locs : List Loc) (ls : Array Slot), Dy tM kc ad D A s.heap σ H locs → lv_has ls 6 [(0, .ref (ad 0)), (1, .int x1), (2, .int x2), (3, .int x3), (4, .int x4)] → k22 x4 = some R → W p l e r_X11_isHooked s m args below meth c H locs 0 0 Q (F0 m 22 ls [])) {H : Heap} {locs : List Loc} {ls : Array Slot} (Z : Dy tM kc ad D A s.heap σ H locs) (hl : lv_has ls 6 [(0, .ref (ad 0)), (1, .int x1), (2, .int x2), (3, .int x3), (4, .int x4)]) (h : f_X11_isHooked_61 x1 x2 x3 x4 σ k22 = some R) : W p l e r_X11_isHooked s m args below meth c H locs 0 0 Q (F0 m 61 ls []) := by
  have hx := C.1.1
  have hb := C.1.2.1
  unfold f_X11_isHooked_61 at h
  obtain ⟨v12, ev12, h⟩ := lb h
  refine lv_iinc (v := v12) (lv' := [(4, .int v12), (0, .ref (ad 0)), (1, .int x1), (2, .int x2), (3, .int x3)]) hx hb dX11_isHooked_61 hl (k := 4) rfl (by rw [ev12]; rfl) (by decide) rfl (fun ls hl => ?_)
  refine lv_goto (tgt := 22) hx hb dX11_isHooked_64 (by decide) ?_
  exact hk22 _ _ _ _ Z (lv_sub hl [1, 2, 3, 4, 0] rfl) h
set_option maxRecDepth 20000 in
theorem w_X11_isHooked_22 {p : Program} {l : Launch} {e : Env} {s : State} {m : MethodId} {args : Array Value} {below : List Frame} {meth : Method} {c : Code} {Q : State → Prop} {D : va_G} {kc : Nat → ClassId} {ad : Nat → Nat} {A : Nat → Prop} (C : Cx eM p s m args c cX11_isHooked 6 RX11 D kc A) {R : Int32} {x1 : Int32} {x2 : Int32} {x3 : Int32} {σ : St} (hR : RTi 0 0 p l e r_X11_isHooked s m args below meth c cX11_isHooked tM kc ad D A Q .boolean R σ) : ∀ (n : Nat) (x4 : Int32) (H : Heap) (locs : List Loc) (ls : Array Slot), Dy tM kc ad D A s.heap σ H locs → lv_has ls 6 [(0, .ref (ad 0)), (1, .int x1), (2, .int x2), (3, .int x3), (4, .int x4)] → f_X11_isHooked_22 x1 x2 x3 σ n x4 = some R → W p l e r_X11_isHooked s m args below meth c H locs 0 0 Q (F0 m 22 ls []) := by
  have hx := C.1.1
  have hb := C.1.2.1
  intro n
  induction n with
  | zero =>
    intro x4 H locs ls Z hl h
    exact absurd (show none = some R from h) (by simp)
  | succ n ih =>
    intro x4 H locs ls Z hl h
    rw [f_X11_isHooked_22] at h
    refine lv_iload hx hb dX11_isHooked_22 (lv_at hl 4 rfl) ?_
    refine lv_iconst (v := 5) hx hb dX11_isHooked_24 (by decide) ?_
    refine lv_icmp_ge (tgt := 67) hx hb dX11_isHooked_25 (by decide) (fun c25 => ?_) (fun c25 => ?_)
    · have h := ip h c25
      refine lv_iconst (v := 1) hx hb dX11_isHooked_67 (by decide) ?_
      obtain rfl := Option.some.inj h
      exact hR _ _ _ _ _ Z dX11_isHooked_68 rfl
    · have h := im h c25
      refine lv_aload_n hx hb dX11_isHooked_28 rfl (lv_at hl 0 rfl) ?_
      refine lv_iload_n hx hb dX11_isHooked_29 rfl (lv_at hl 3 rfl) ?_
      refine lv_iload hx hb dX11_isHooked_30 (lv_at hl 4 rfl) ?_
      obtain ⟨v10, hv10, h⟩ := ob h
      refine g_callVi eM_ok C Z (k_X11_stepTo hv10) lk_X11_497 (by decide) rfl rfl hl (by decide) rfl (Nat.le_of_ble_eq_true rfl) (rest := []) rfl dX11_isHooked_32 (fun H locs Z => ?_)
      refine lv_istore (lv' := [(5, .int v10), (0, .ref (ad 0)), (1, .int x1), (2, .int x2), (3, .int x3), (4, .int x4)]) hx hb dX11_isHooked_35 hl (by decide) rfl (fun ls hl => ?_)
      refine lv_iload hx hb dX11_isHooked_37 (lv_at hl 0 rfl) ?_
      refine lv_if_lt (tgt := 61) hx hb dX11_isHooked_39 (by decide) (fun c39 => ?_) (fun c39 => ?_)
      · have h := ip h c39
        exact w_X11_isHooked_61 C hR ih Z (lv_sub hl [1, 2, 3, 4, 5] rfl) h
      · have h := im h c39
        refine lv_iload hx hb dX11_isHooked_42 (lv_at hl 0 rfl) ?_
        refine lv_iload_n hx hb dX11_isHooked_44 rfl (lv_at hl 3 rfl) ?_
        refine lv_icmp_eq (tgt := 61) hx hb dX11_isHooked_45 (by decide) (fun c45 => ?_) (fun c45 => ?_)
        · have h := ip h c45
          exact w_X11_isHooked_61 C hR ih Z (lv_sub hl [1, 2, 3, 4, 5] rfl) h
        · have h := im h c45
          refine lv_aload_n hx hb dX11_isHooked_48 rfl (lv_at hl 1 rfl) ?_
          refine lv_iload_n hx hb dX11_isHooked_49 rfl (lv_at hl 2 rfl) ?_
          refine lv_iload_n hx hb dX11_isHooked_50 rfl (lv_at hl 3 rfl) ?_
          refine lv_iload hx hb dX11_isHooked_51 (lv_at hl 0 rfl) ?_
          obtain ⟨v11, hv11, h⟩ := ob h
          refine g_callVi eM_ok C Z (k_X11_isLost hv11) lk_X11_503 (by decide) rfl rfl hl (by decide) rfl (Nat.le_of_ble_eq_true rfl) (rest := []) rfl dX11_isHooked_53 (fun H locs Z => ?_)
          refine lv_if_ne (tgt := 61) hx hb dX11_isHooked_56 (by decide) (fun c56 => ?_) (fun c56 => ?_)
          · have h := im h c56
            exact w_X11_isHooked_61 C hR ih Z (lv_sub hl [1, 2, 3, 4, 5] rfl) h
          · have h := ip h c56
            refine lv_iconst (v := 0) hx hb dX11_isHooked_59 (by decide) ?_
            obtain rfl := Option.some.inj h
            exact hR _ _ _ _ _ Z dX11_isHooked_60 rfl
set_option maxRecDepth 20000 in
theorem w_X11_isHooked_0 {p : Program} {l : Launch} {e : Env} {s : State} {m : MethodId} {args : Array Value} {below : List Frame} {meth : Method} {c : Code} {Q : State → Prop} {D : va_G} {kc : Nat → ClassId} {ad : Nat → Nat} {A : Nat → Prop} (C : Cx eM p s m args c cX11_isHooked 6 RX11 D kc A) {R : Int32} {x1 : Int32} {x2 : Int32} {x3 : Int32} {σ : St} (hR : RTi 0 0 p l e r_X11_isHooked s m args below meth c cX11_isHooked tM kc ad D A Q .boolean R σ) {H : Heap} {locs : List Loc} {ls : Array Slot} (Z : Dy tM kc ad D A s.heap σ H locs) (hl : lv_has ls 6 [(0, .ref (ad 0)), (1, .int x1), (2, .int x2), (3, .int x3)]) (h : f_X11_isHooked x1 x2 x3 σ = some R) : W p l e r_X11_isHooked s m args below meth c H locs 0 0 Q (F0 m 0 ls []) := by
  have hx := C.1.1
  have hb := C.1.2.1
  unfold f_X11_isHooked at h
  refine lv_iload_n hx hb dX11_isHooked_0 rfl (lv_at hl 2 rfl) ?_
  refine lv_iload_n hx hb dX11_isHooked_1 rfl (lv_at hl 1 rfl) ?_
  refine lv_icmp_ne (tgt := 7) hx hb dX11_isHooked_2 (by decide) (fun c2 => ?_) (fun c2 => ?_)
  · have h := im h c2
    refine lv_iload_n hx hb dX11_isHooked_7 rfl (lv_at hl 3 rfl) ?_
    refine lv_if_ge (tgt := 19) hx hb dX11_isHooked_8 (by decide) (fun c8 => ?_) (fun c8 => ?_)
    · have h := ip h c8
      refine lv_iconst (v := 0) hx hb dX11_isHooked_19 (by decide) ?_
      refine lv_istore (lv' := [(4, .int 0), (0, .ref (ad 0)), (1, .int x1), (2, .int x2), (3, .int x3)]) hx hb dX11_isHooked_20 hl (by decide) rfl (fun ls hl => ?_)
      exact w_X11_isHooked_22 C hR _ _ _ _ _ Z (lv_sub hl [1, 2, 3, 4, 0] rfl) h
    · have h := im h c8
      refine lv_aload_n hx hb dX11_isHooked_11 rfl (lv_at hl 0 rfl) ?_
      refine lv_iload_n hx hb dX11_isHooked_12 rfl (lv_at hl 1 rfl) ?_
      refine lv_iload_n hx hb dX11_isHooked_13 rfl (lv_at hl 2 rfl) ?_
      refine lv_iconst (v := (-1)) hx hb dX11_isHooked_14 (by decide) ?_
      obtain ⟨v9, hv9, h⟩ := ob h
      refine g_callVi eM_ok C Z (k_X11_isLost hv9) lk_X11_503 (by decide) rfl rfl hl (by decide) rfl (Nat.le_of_ble_eq_true rfl) (rest := []) rfl dX11_isHooked_15 (fun H locs Z => ?_)
      obtain rfl := Option.some.inj h
      exact hR _ _ _ _ _ Z dX11_isHooked_18 (nar_b _)
  · have h := ip h c2
    refine lv_iconst (v := 1) hx hb dX11_isHooked_5 (by decide) ?_
    obtain rfl := Option.some.inj h
    exact hR _ _ _ _ _ Z dX11_isHooked_6 rfl
theorem k_X11_isHooked {l : Launch} {kc : Nat → ClassId} {ad : Nat → Nat} {D : va_G} {x1 : Int32} {x2 : Int32} {x3 : Int32} {σ : St} {R : Int32} (h : f_X11_isHooked x1 x2 x3 σ = some R) : KC eM tM kc ad D l yX11_isHooked (.code yX11_isHooked cX11_isHooked 6 (some .boolean)) r_X11_isHooked [.ref (ad 0), .int x1, .int x2, .int x3] (some (.int R)) σ σ := by
  refine g_enter (by decide) (Nat.le_of_ble_eq_true rfl) ?_
  intro p e s m args below meth c A hA C hr hlocks Z ls hl
  have hl : lv_has ls 6 [(0, .ref (ad 0)), (1, .int x1), (2, .int x2), (3, .int x3)] := hl
  exact w_X11_isHooked_0 C (g_RTi C.1.1 C.1.2.1 hr hlocks hA)  Z hl h
def r_X11_firstHook : Room := { frames := 4, cells := 0, slots := 0, locals := 99 }
set_option maxRecDepth 20000 in
theorem w_X11_firstHook_62 {p : Program} {l : Launch} {e : Env} {s : State} {m : MethodId} {args : Array Value} {below : List Frame} {meth : Method} {c : Code} {Q : State → Prop} {D : va_G} {kc : Nat → ClassId} {ad : Nat → Nat} {A : Nat → Prop} (C : Cx eM p s m args c cX11_firstHook 7 RX11 D kc A) {R : Int32} {x1 : Int32} {x2 : Int32} {x3 : Int32} {x4 : Int32} {x5 : Int32} {σ : St} (hR : RTi 0 0 p l e r_X11_firstHook s m args below meth c cX11_firstHook tM kc ad D A Q .int R σ) {k6 : Int32 → Int32 → Option (Int32)} (hk6 : ∀ (x4 : Int32) (x5 : Int32) (H : Heap) (locs : List Loc) (ls : Array Slot), Dy tM kc ad D A s.heap σ H locs → lv_has ls 7 [(0, .ref (ad 0)), (1, .int x1), (2, .int x2), (3, .int x3), (4, .int x4), (5, .int x5)] → k6 x4 x5 = some R → W p l e r_X11_firstHook s m args below meth c H locs 0 0 Q (F0 m 6 ls [])) {H : Heap} {locs : List Loc} {ls : Array Slot} (Z : Dy tM kc ad D A s.heap σ H locs) (hl : lv_has ls 7 [(0, .ref (ad 0)), (1, .int x1), (2, .int x2), (3, .int x3), (4, .int x4), (5, .int x5)]) (h : f_X11_firstHook_62 x1 x2 x3 x4 x5 σ k6 = some R) : W p l e r_X11_firstHook s m args below meth c H locs 0 0 Q (F0 m 62 ls []) := by
  have hx := C.1.1
  have hb := C.1.2.1
  unfold f_X11_firstHook_62 at h
  obtain ⟨v9, ev9, h⟩ := lb h
  refine lv_iinc (v := v9) (lv' := [(5, .int v9), (0, .ref (ad 0)), (1, .int x1), (2, .int x2), (3, .int x3), (4, .int x4)]) hx hb dX11_firstHook_62 hl (k := 5) rfl (by rw [ev9]; rfl) (by decide) rfl (fun ls hl => ?_)
  refine lv_goto (tgt := 6) hx hb dX11_firstHook_65 (by decide) ?_
  exact hk6 _ _ _ _ _ Z (lv_sub hl [1, 2, 3, 4, 5, 0] rfl) h
set_option maxRecDepth 20000 in
theorem w_X11_firstHook_47 {p : Program} {l : Launch} {e : Env} {s : State} {m : MethodId} {args : Array Value} {below : List Frame} {meth : Method} {c : Code} {Q : State → Prop} {D : va_G} {kc : Nat → ClassId} {ad : Nat → Nat} {A : Nat → Prop} (C : Cx eM p s m args c cX11_firstHook 7 RX11 D kc A) {R : Int32} {x1 : Int32} {x2 : Int32} {x3 : Int32} {x4 : Int32} {x5 : Int32} {x6 : Int32} {σ : St} (hR : RTi 0 0 p l e r_X11_firstHook s m args below meth c cX11_firstHook tM kc ad D A Q .int R σ) {k6 : Int32 → Int32 → Option (Int32)} (hk6 : ∀ (x4 : Int32) (x5 : Int32) (H : Heap) (locs : List Loc) (ls : Array Slot), Dy tM kc ad D A s.heap σ H locs → lv_has ls 7 [(0, .ref (ad 0)), (1, .int x1), (2, .int x2), (3, .int x3), (4, .int x4), (5, .int x5)] → k6 x4 x5 = some R → W p l e r_X11_firstHook s m args below meth c H locs 0 0 Q (F0 m 6 ls [])) {H : Heap} {locs : List Loc} {ls : Array Slot} (Z : Dy tM kc ad D A s.heap σ H locs) (hl : lv_has ls 7 [(0, .ref (ad 0)), (1, .int x1), (2, .int x2), (3, .int x3), (4, .int x4), (5, .int x5), (6, .int x6)]) (h : f_X11_firstHook_47 x1 x2 x3 x4 x5 x6 σ k6 = some R) : W p l e r_X11_firstHook s m args below meth c H locs 0 0 Q (F0 m 47 ls []) := by
  have hx := C.1.1
  have hb := C.1.2.1
  unfold f_X11_firstHook_47 at h
  refine lv_aload_n hx hb dX11_firstHook_47 rfl (lv_at hl 0 rfl) ?_
  refine lv_iload_n hx hb dX11_firstHook_48 rfl (lv_at hl 1 rfl) ?_
  refine lv_iload hx hb dX11_firstHook_49 (lv_at hl 6 rfl) ?_
  refine lv_iload_n hx hb dX11_firstHook_51 rfl (lv_at hl 3 rfl) ?_
  obtain ⟨v8, hv8, h⟩ := ob h
  refine g_callVi eM_ok C Z (k_X11_isHooked hv8) lk_X11_506 (by decide) rfl rfl hl (by decide) rfl (Nat.le_of_ble_eq_true rfl) (rest := []) rfl dX11_firstHook_52 (fun H locs Z => ?_)
  refine lv_if_eq (tgt := 62) hx hb dX11_firstHook_55 (by decide) (fun c55 => ?_) (fun c55 => ?_)
  · have h := ip h c55
    exact w_X11_firstHook_62 C hR hk6 Z (lv_sub hl [0, 1, 2, 3, 4, 5] rfl) h
  · have h := im h c55
    refine lv_iload hx hb dX11_firstHook_58 (lv_at hl 6 rfl) ?_
    refine lv_istore (lv' := [(4, .int x6), (0, .ref (ad 0)), (1, .int x1), (2, .int x2), (3, .int x3), (5, .int x5), (6, .int x6)]) hx hb dX11_firstHook_60 hl (by decide) rfl (fun ls hl => ?_)
    exact w_X11_firstHook_62 C hR hk6 Z (lv_sub hl [1, 2, 3, 4, 0, 5] rfl) h
set_option maxRecDepth 20000 in
theorem w_X11_firstHook_6 {p : Program} {l : Launch} {e : Env} {s : State} {m : MethodId} {args : Array Value} {below : List Frame} {meth : Method} {c : Code} {Q : State → Prop} {D : va_G} {kc : Nat → ClassId} {ad : Nat → Nat} {A : Nat → Prop} (C : Cx eM p s m args c cX11_firstHook 7 RX11 D kc A) {R : Int32} {x1 : Int32} {x2 : Int32} {x3 : Int32} {σ : St} (hR : RTi 0 0 p l e r_X11_firstHook s m args below meth c cX11_firstHook tM kc ad D A Q .int R σ) : ∀ (n : Nat) (x4 : Int32) (x5 : Int32) (H : Heap) (locs : List Loc) (ls : Array Slot), Dy tM kc ad D A s.heap σ H locs → lv_has ls 7 [(0, .ref (ad 0)), (1, .int x1), (2, .int x2), (3, .int x3), (4, .int x4), (5, .int x5)] → f_X11_firstHook_6 x1 x2 x3 σ n x4 x5 = some R → W p l e r_X11_firstHook s m args below meth c H locs 0 0 Q (F0 m 6 ls []) := by
  have hx := C.1.1
  have hb := C.1.2.1
  intro n
  induction n with
  | zero =>
    intro x4 x5 H locs ls Z hl h
    exact absurd (show none = some R from h) (by simp)
  | succ n ih =>
    intro x4 x5 H locs ls Z hl h
    rw [f_X11_firstHook_6] at h
    refine lv_iload hx hb dX11_firstHook_6 (lv_at hl 5 rfl) ?_
    refine lv_iconst (v := 5) hx hb dX11_firstHook_8 (by decide) ?_
    refine lv_icmp_ge (tgt := 68) hx hb dX11_firstHook_9 (by decide) (fun c9 => ?_) (fun c9 => ?_)
    · have h := ip h c9
      refine lv_iload hx hb dX11_firstHook_68 (lv_at hl 4 rfl) ?_
      obtain rfl := Option.some.inj h
      exact hR _ _ _ _ _ Z dX11_firstHook_70 rfl
    · have h := im h c9
      refine lv_aload_n hx hb dX11_firstHook_12 rfl (lv_at hl 0 rfl) ?_
      refine lv_iload_n hx hb dX11_firstHook_13 rfl (lv_at hl 2 rfl) ?_
      refine lv_iload hx hb dX11_firstHook_14 (lv_at hl 5 rfl) ?_
      obtain ⟨v7, hv7, h⟩ := ob h
      refine g_callVi eM_ok C Z (k_X11_stepTo hv7) lk_X11_497 (by decide) rfl rfl hl (by decide) rfl (Nat.le_of_ble_eq_true rfl) (rest := []) rfl dX11_firstHook_16 (fun H locs Z => ?_)
      refine lv_istore (lv' := [(6, .int v7), (0, .ref (ad 0)), (1, .int x1), (2, .int x2), (3, .int x3), (4, .int x4), (5, .int x5)]) hx hb dX11_firstHook_19 hl (by decide) rfl (fun ls hl => ?_)
      refine lv_iload hx hb dX11_firstHook_21 (lv_at hl 0 rfl) ?_
      refine lv_if_lt (tgt := 62) hx hb dX11_firstHook_23 (by decide) (fun c23 => ?_) (fun c23 => ?_)
      · have h := ip h c23
        exact w_X11_firstHook_62 C hR ih Z (lv_sub hl [1, 2, 3, 4, 5, 6] rfl) h
      · have h := im h c23
        refine lv_iload hx hb dX11_firstHook_26 (lv_at hl 0 rfl) ?_
        refine lv_iload_n hx hb dX11_firstHook_28 rfl (lv_at hl 4 rfl) ?_
        refine lv_icmp_eq (tgt := 62) hx hb dX11_firstHook_29 (by decide) (fun c29 => ?_) (fun c29 => ?_)
        · have h := ip h c29
          exact w_X11_firstHook_62 C hR ih Z (lv_sub hl [1, 2, 3, 4, 5, 6] rfl) h
        · have h := im h c29
          refine lv_iload hx hb dX11_firstHook_32 (lv_at hl 5 rfl) ?_
          refine lv_if_lt (tgt := 47) hx hb dX11_firstHook_34 (by decide) (fun c34 => ?_) (fun c34 => ?_)
          · have h := ip h c34
            exact w_X11_firstHook_47 C hR ih Z (lv_sub hl [1, 2, 3, 4, 5, 6, 0] rfl) h
          · have h := im h c34
            refine lv_iload hx hb dX11_firstHook_37 (lv_at hl 0 rfl) ?_
            refine lv_iload hx hb dX11_firstHook_39 (lv_at hl 5 rfl) ?_
            refine lv_icmp_le (tgt := 47) hx hb dX11_firstHook_41 (by decide) (fun c41 => ?_) (fun c41 => ?_)
            · have h := ip h c41
              exact w_X11_firstHook_47 C hR ih Z (lv_sub hl [1, 2, 3, 4, 5, 6, 0] rfl) h
            · have h := im h c41
              refine lv_goto (tgt := 62) hx hb dX11_firstHook_44 (by decide) ?_
              exact w_X11_firstHook_62 C hR ih Z (lv_sub hl [1, 2, 3, 4, 5, 6] rfl) h
set_option maxRecDepth 20000 in
theorem w_X11_firstHook_0 {p : Program} {l : Launch} {e : Env} {s : State} {m : MethodId} {args : Array Value} {below : List Frame} {meth : Method} {c : Code} {Q : State → Prop} {D : va_G} {kc : Nat → ClassId} {ad : Nat → Nat} {A : Nat → Prop} (C : Cx eM p s m args c cX11_firstHook 7 RX11 D kc A) {R : Int32} {x1 : Int32} {x2 : Int32} {x3 : Int32} {σ : St} (hR : RTi 0 0 p l e r_X11_firstHook s m args below meth c cX11_firstHook tM kc ad D A Q .int R σ) {H : Heap} {locs : List Loc} {ls : Array Slot} (Z : Dy tM kc ad D A s.heap σ H locs) (hl : lv_has ls 7 [(0, .ref (ad 0)), (1, .int x1), (2, .int x2), (3, .int x3)]) (h : f_X11_firstHook x1 x2 x3 σ = some R) : W p l e r_X11_firstHook s m args below meth c H locs 0 0 Q (F0 m 0 ls []) := by
  have hx := C.1.1
  have hb := C.1.2.1
  unfold f_X11_firstHook at h
  refine lv_iconst (v := (-1)) hx hb dX11_firstHook_0 (by decide) ?_
  refine lv_istore (lv' := [(4, .int (-1)), (0, .ref (ad 0)), (1, .int x1), (2, .int x2), (3, .int x3)]) hx hb dX11_firstHook_1 hl (by decide) rfl (fun ls hl => ?_)
  refine lv_iconst (v := 0) hx hb dX11_firstHook_3 (by decide) ?_
  refine lv_istore (lv' := [(5, .int 0), (4, .int (-1)), (0, .ref (ad 0)), (1, .int x1), (2, .int x2), (3, .int x3)]) hx hb dX11_firstHook_4 hl (by decide) rfl (fun ls hl => ?_)
  exact w_X11_firstHook_6 C hR _ _ _ _ _ _ Z (lv_sub hl [2, 3, 4, 5, 1, 0] rfl) h
theorem k_X11_firstHook {l : Launch} {kc : Nat → ClassId} {ad : Nat → Nat} {D : va_G} {x1 : Int32} {x2 : Int32} {x3 : Int32} {σ : St} {R : Int32} (h : f_X11_firstHook x1 x2 x3 σ = some R) : KC eM tM kc ad D l yX11_firstHook (.code yX11_firstHook cX11_firstHook 7 (some .int)) r_X11_firstHook [.ref (ad 0), .int x1, .int x2, .int x3] (some (.int R)) σ σ := by
  refine g_enter (by decide) (Nat.le_of_ble_eq_true rfl) ?_
  intro p e s m args below meth c A hA C hr hlocks Z ls hl
  have hl : lv_has ls 7 [(0, .ref (ad 0)), (1, .int x1), (2, .int x2), (3, .int x3)] := hl
  exact w_X11_firstHook_0 C (g_RTi C.1.1 C.1.2.1 hr hlocks hA)  Z hl h
def r_X11_levels : Room := { frames := 5, cells := 0, slots := 0, locals := 125 }
set_option maxRecDepth 20000 in
theorem w_X11_levels_83 {p : Program} {l : Launch} {e : Env} {s : State} {m : MethodId} {args : Array Value} {below : List Frame} {meth : Method} {c : Code} {Q : State → Prop} {D : va_G} {kc : Nat → ClassId} {ad : Nat → Nat} {A : Nat → Prop} (C : Cx eM p s m args c cX11_levels 5 RX11 D kc A) {R : St} {x1 : Int32} {x2 : Int32} {x3 : Int32} {x4 : Int32} {y1 : Int32} {y2 : Int32} {σ : St} (hR : RTv 0 0 p l e r_X11_levels s m args below meth c cX11_levels tM kc ad D A Q R) {k35 : Int32 → St → Option (St)} {k19 : Int32 → St → Option (St)} {k12 : Int32 → St → Option (St)} (hk35 : ∀ (x4 : Int32) (σ : St) (H : Heap) (locs : List Loc) (ls : Array Slot), Dy tM kc ad D A s.heap σ H locs → lv_has ls 5 [(0, .ref (ad 0)), (1, .int x1), (2, .int x2), (3, .int x3), (4, .int x4)] → k35 x4 σ = some R → W p l e r_X11_levels s m args below meth c H locs 0 0 Q (F0 m 35 ls [])) (hk19 : ∀ (x3 : Int32) (σ : St) (H : Heap) (locs : List Loc) (ls : Array Slot), Dy tM kc ad D A s.heap σ H locs → lv_has ls 5 [(0, .ref (ad 0)), (1, .int x1), (2, .int x2), (3, .int x3)] → k19 x3 σ = some R → W p l e r_X11_levels s m args below meth c H locs 0 0 Q (F0 m 19 ls [])) (hk12 : ∀ (x2 : Int32) (σ : St) (H : Heap) (locs : List Loc) (ls : Array Slot), Dy tM kc ad D A s.heap σ H locs → lv_has ls 5 [(0, .ref (ad 0)), (1, .int x1), (2, .int x2)] → k12 x2 σ = some R → W p l e r_X11_levels s m args below meth c H locs 0 0 Q (F0 m 12 ls [])) {H : Heap} {locs : List Loc} {ls : Array Slot} (Z : Dy tM kc ad D A s.heap σ H locs) (hl : lv_has ls 5 [(0, .ref (ad 0)), (1, .int x1), (2, .int x2), (3, .int x3), (4, .int x4)]) (h : f_X11_levels_83 x1 x2 x3 x4 y1 y2 σ k35 k19 k12 = some R) : W p l e r_X11_levels s m args below meth c H locs 0 0 Q (F0 m 83 ls [.int y2, .int y1, .ref (ad 40)]) := by
  have hx := C.1.1
  have hb := C.1.2.1
  unfold f_X11_levels_83 at h
  obtain ⟨σ24, hσ24, h⟩ := ob h
  refine g_zast C Z iaM40 hσ24 dX11_levels_83 (fun H locs Z => ?_)
  obtain ⟨v25, ev25, h⟩ := lb h
  refine lv_iinc (v := v25) (lv' := [(4, .int v25), (0, .ref (ad 0)), (1, .int x1), (2, .int x2), (3, .int x3)]) hx hb dX11_levels_84 hl (k := 4) rfl (by rw [ev25]; rfl) (by decide) rfl (fun ls hl => ?_)
  refine lv_goto (tgt := 35) hx hb dX11_levels_87 (by decide) ?_
  exact hk35 _ _ _ _ _ Z (lv_sub hl [1, 2, 3, 4, 0] rfl) h
set_option maxRecDepth 20000 in
theorem w_X11_levels_78 {p : Program} {l : Launch} {e : Env} {s : State} {m : MethodId} {args : Array Value} {below : List Frame} {meth : Method} {c : Code} {Q : State → Prop} {D : va_G} {kc : Nat → ClassId} {ad : Nat → Nat} {A : Nat → Prop} (C : Cx eM p s m args c cX11_levels 5 RX11 D kc A) {R : St} {x1 : Int32} {x2 : Int32} {x3 : Int32} {x4 : Int32} {y1 : Int32} {σ : St} (hR : RTv 0 0 p l e r_X11_levels s m args below meth c cX11_levels tM kc ad D A Q R) {k35 : Int32 → St → Option (St)} {k19 : Int32 → St → Option (St)} {k12 : Int32 → St → Option (St)} (hk35 : ∀ (x4 : Int32) (σ : St) (H : Heap) (locs : List Loc) (ls : Array Slot), Dy tM kc ad D A s.heap σ H locs → lv_has ls 5 [(0, .ref (ad 0)), (1, .int x1), (2, .int x2), (3, .int x3), (4, .int x4)] → k35 x4 σ = some R → W p l e r_X11_levels s m args below meth c H locs 0 0 Q (F0 m 35 ls [])) (hk19 : ∀ (x3 : Int32) (σ : St) (H : Heap) (locs : List Loc) (ls : Array Slot), Dy tM kc ad D A s.heap σ H locs → lv_has ls 5 [(0, .ref (ad 0)), (1, .int x1), (2, .int x2), (3, .int x3)] → k19 x3 σ = some R → W p l e r_X11_levels s m args below meth c H locs 0 0 Q (F0 m 19 ls [])) (hk12 : ∀ (x2 : Int32) (σ : St) (H : Heap) (locs : List Loc) (ls : Array Slot), Dy tM kc ad D A s.heap σ H locs → lv_has ls 5 [(0, .ref (ad 0)), (1, .int x1), (2, .int x2)] → k12 x2 σ = some R → W p l e r_X11_levels s m args below meth c H locs 0 0 Q (F0 m 12 ls [])) {H : Heap} {locs : List Loc} {ls : Array Slot} (Z : Dy tM kc ad D A s.heap σ H locs) (hl : lv_has ls 5 [(0, .ref (ad 0)), (1, .int x1), (2, .int x2), (3, .int x3), (4, .int x4)]) (h : f_X11_levels_78 x1 x2 x3 x4 y1 σ k35 k19 k12 = some R) : W p l e r_X11_levels s m args below meth c H locs 0 0 Q (F0 m 78 ls [.int y1, .ref (ad 40)]) := by
  have hx := C.1.1
  have hb := C.1.2.1
  unfold f_X11_levels_78 at h
  refine lv_iconst (v := 1) hx hb dX11_levels_78 (by decide) ?_
  refine lv_goto (tgt := 83) hx hb dX11_levels_79 (by decide) ?_
  exact w_X11_levels_83 C hR hk35 hk19 hk12 Z (lv_sub hl [0, 1, 2, 3, 4] rfl) h
set_option maxRecDepth 20000 in
theorem w_X11_levels_90 {p : Program} {l : Launch} {e : Env} {s : State} {m : MethodId} {args : Array Value} {below : List Frame} {meth : Method} {c : Code} {Q : State → Prop} {D : va_G} {kc : Nat → ClassId} {ad : Nat → Nat} {A : Nat → Prop} (C : Cx eM p s m args c cX11_levels 5 RX11 D kc A) {R : St} {x1 : Int32} {x2 : Int32} {x3 : Int32} {σ : St} (hR : RTv 0 0 p l e r_X11_levels s m args below meth c cX11_levels tM kc ad D A Q R) {k19 : Int32 → St → Option (St)} {k12 : Int32 → St → Option (St)} (hk19 : ∀ (x3 : Int32) (σ : St) (H : Heap) (locs : List Loc) (ls : Array Slot), Dy tM kc ad D A s.heap σ H locs → lv_has ls 5 [(0, .ref (ad 0)), (1, .int x1), (2, .int x2), (3, .int x3)] → k19 x3 σ = some R → W p l e r_X11_levels s m args below meth c H locs 0 0 Q (F0 m 19 ls [])) (hk12 : ∀ (x2 : Int32) (σ : St) (H : Heap) (locs : List Loc) (ls : Array Slot), Dy tM kc ad D A s.heap σ H locs → lv_has ls 5 [(0, .ref (ad 0)), (1, .int x1), (2, .int x2)] → k12 x2 σ = some R → W p l e r_X11_levels s m args below meth c H locs 0 0 Q (F0 m 12 ls [])) {H : Heap} {locs : List Loc} {ls : Array Slot} (Z : Dy tM kc ad D A s.heap σ H locs) (hl : lv_has ls 5 [(0, .ref (ad 0)), (1, .int x1), (2, .int x2), (3, .int x3)]) (h : f_X11_levels_90 x1 x2 x3 σ k19 k12 = some R) : W p l e r_X11_levels s m args below meth c H locs 0 0 Q (F0 m 90 ls []) := by
  have hx := C.1.1
  have hb := C.1.2.1
  unfold f_X11_levels_90 at h
  obtain ⟨v26, ev26, h⟩ := lb h
  refine lv_iinc (v := v26) (lv' := [(3, .int v26), (0, .ref (ad 0)), (1, .int x1), (2, .int x2)]) hx hb dX11_levels_90 hl (k := 3) rfl (by rw [ev26]; rfl) (by decide) rfl (fun ls hl => ?_)
  refine lv_goto (tgt := 19) hx hb dX11_levels_93 (by decide) ?_
  exact hk19 _ _ _ _ _ Z (lv_sub hl [1, 2, 3, 0] rfl) h
set_option maxRecDepth 20000 in
theorem w_X11_levels_35 {p : Program} {l : Launch} {e : Env} {s : State} {m : MethodId} {args : Array Value} {below : List Frame} {meth : Method} {c : Code} {Q : State → Prop} {D : va_G} {kc : Nat → ClassId} {ad : Nat → Nat} {A : Nat → Prop} (C : Cx eM p s m args c cX11_levels 5 RX11 D kc A) {R : St} {x1 : Int32} {x2 : Int32} {x3 : Int32} (hR : RTv 0 0 p l e r_X11_levels s m args below meth c cX11_levels tM kc ad D A Q R) {k19 : Int32 → St → Option (St)} {k12 : Int32 → St → Option (St)} (hk19 : ∀ (x3 : Int32) (σ : St) (H : Heap) (locs : List Loc) (ls : Array Slot), Dy tM kc ad D A s.heap σ H locs → lv_has ls 5 [(0, .ref (ad 0)), (1, .int x1), (2, .int x2), (3, .int x3)] → k19 x3 σ = some R → W p l e r_X11_levels s m args below meth c H locs 0 0 Q (F0 m 19 ls [])) (hk12 : ∀ (x2 : Int32) (σ : St) (H : Heap) (locs : List Loc) (ls : Array Slot), Dy tM kc ad D A s.heap σ H locs → lv_has ls 5 [(0, .ref (ad 0)), (1, .int x1), (2, .int x2)] → k12 x2 σ = some R → W p l e r_X11_levels s m args below meth c H locs 0 0 Q (F0 m 12 ls [])) : ∀ (n : Nat) (x4 : Int32) (σ : St) (H : Heap) (locs : List Loc) (ls : Array Slot), Dy tM kc ad D A s.heap σ H locs → lv_has ls 5 [(0, .ref (ad 0)), (1, .int x1), (2, .int x2), (3, .int x3), (4, .int x4)] → f_X11_levels_35 x1 x2 x3 k19 k12 n x4 σ = some R → W p l e r_X11_levels s m args below meth c H locs 0 0 Q (F0 m 35 ls []) := by
  have hx := C.1.1
  have hb := C.1.2.1
  intro n
  induction n with
  | zero =>
    intro x4 σ H locs ls Z hl h
    exact absurd (show none = some R from h) (by simp)
  | succ n ih =>
    intro x4 σ H locs ls Z hl h
    rw [f_X11_levels_35] at h
    refine lv_iload hx hb dX11_levels_35 (lv_at hl 4 rfl) ?_
    refine lv_iload_n hx hb dX11_levels_37 rfl (lv_at hl 1 rfl) ?_
    refine lv_icmp_ge (tgt := 90) hx hb dX11_levels_38 (by decide) (fun c38 => ?_) (fun c38 => ?_)
    · have h := ip h c38
      exact w_X11_levels_90 C hR hk19 hk12 Z (lv_sub hl [0, 1, 2, 3] rfl) h
    · have h := im h c38
      refine lv_aload_n hx hb dX11_levels_41 rfl (lv_at hl 0 rfl) ?_
      refine rg_X11_158 C Z dX11_levels_42 ?_
      refine lv_iload hx hb dX11_levels_45 (lv_at hl 4 rfl) ?_
      refine lv_iload_n hx hb dX11_levels_47 rfl (lv_at hl 2 rfl) ?_
      refine lv_iload_n hx hb dX11_levels_48 rfl (lv_at hl 3 rfl) ?_
      refine g_callSi eM_ok C Z (k_X11_state x4 x2 x3 σ) lk_X11_500 hl (by decide) rfl (Nat.le_of_ble_eq_true rfl) (rest := [.ref (ad 40)]) rfl dX11_levels_49 (fun H locs Z => ?_)
      refine lv_aload_n hx hb dX11_levels_52 rfl (lv_at hl 0 rfl) ?_
      refine rg_X11_154 C Z dX11_levels_53 ?_
      refine lv_iload hx hb dX11_levels_56 (lv_at hl 4 rfl) ?_
      refine lv_iload_n hx hb dX11_levels_58 rfl (lv_at hl 2 rfl) ?_
      refine lv_iload_n hx hb dX11_levels_59 rfl (lv_at hl 3 rfl) ?_
      refine g_callSi eM_ok C Z (k_X11_state x4 x2 x3 σ) lk_X11_500 hl (by decide) rfl (Nat.le_of_ble_eq_true rfl) (rest := [.ref (ad 39), .int (f_X11_state x4 x2 x3), .ref (ad 40)]) rfl dX11_levels_60 (fun H locs Z => ?_)
      obtain ⟨v22, hv22, h⟩ := ob h
      refine g_zald C Z iaM39 hv22 dX11_levels_63 ?_
      refine lv_if_ne (tgt := 78) hx hb dX11_levels_64 (by decide) (fun c64 => ?_) (fun c64 => ?_)
      · have h := im h c64
        exact w_X11_levels_78 C hR ih hk19 hk12 Z (lv_sub hl [0, 1, 2, 3, 4] rfl) h
      · have h := ip h c64
        refine lv_aload_n hx hb dX11_levels_67 rfl (lv_at hl 0 rfl) ?_
        refine lv_iload hx hb dX11_levels_68 (lv_at hl 4 rfl) ?_
        refine lv_iload_n hx hb dX11_levels_70 rfl (lv_at hl 2 rfl) ?_
        refine lv_iload_n hx hb dX11_levels_71 rfl (lv_at hl 3 rfl) ?_
        obtain ⟨v23, hv23, h⟩ := ob h
        refine g_callVi eM_ok C Z (k_X11_firstHook hv23) lk_X11_509 (by decide) rfl rfl hl (by decide) rfl (Nat.le_of_ble_eq_true rfl) (rest := [.int (f_X11_state x4 x2 x3), .ref (ad 40)]) rfl dX11_levels_72 (fun H locs Z => ?_)
        refine lv_if_lt (tgt := 82) hx hb dX11_levels_75 (by decide) (fun c75 => ?_) (fun c75 => ?_)
        · have h := ip h c75
          refine lv_iconst (v := 0) hx hb dX11_levels_82 (by decide) ?_
          exact w_X11_levels_83 C hR ih hk19 hk12 Z (lv_sub hl [0, 1, 2, 3, 4] rfl) h
        · have h := im h c75
          exact w_X11_levels_78 C hR ih hk19 hk12 Z (lv_sub hl [0, 1, 2, 3, 4] rfl) h
set_option maxRecDepth 20000 in
theorem w_X11_levels_96 {p : Program} {l : Launch} {e : Env} {s : State} {m : MethodId} {args : Array Value} {below : List Frame} {meth : Method} {c : Code} {Q : State → Prop} {D : va_G} {kc : Nat → ClassId} {ad : Nat → Nat} {A : Nat → Prop} (C : Cx eM p s m args c cX11_levels 5 RX11 D kc A) {R : St} {x1 : Int32} {x2 : Int32} {σ : St} (hR : RTv 0 0 p l e r_X11_levels s m args below meth c cX11_levels tM kc ad D A Q R) {k12 : Int32 → St → Option (St)} (hk12 : ∀ (x2 : Int32) (σ : St) (H : Heap) (locs : List Loc) (ls : Array Slot), Dy tM kc ad D A s.heap σ H locs → lv_has ls 5 [(0, .ref (ad 0)), (1, .int x1), (2, .int x2)] → k12 x2 σ = some R → W p l e r_X11_levels s m args below meth c H locs 0 0 Q (F0 m 12 ls [])) {H : Heap} {locs : List Loc} {ls : Array Slot} (Z : Dy tM kc ad D A s.heap σ H locs) (hl : lv_has ls 5 [(0, .ref (ad 0)), (1, .int x1), (2, .int x2)]) (h : f_X11_levels_96 x1 x2 σ k12 = some R) : W p l e r_X11_levels s m args below meth c H locs 0 0 Q (F0 m 96 ls []) := by
  have hx := C.1.1
  have hb := C.1.2.1
  unfold f_X11_levels_96 at h
  obtain ⟨v27, ev27, h⟩ := lb h
  refine lv_iinc (v := v27) (lv' := [(2, .int v27), (0, .ref (ad 0)), (1, .int x1)]) hx hb dX11_levels_96 hl (k := 2) rfl (by rw [ev27]; rfl) (by decide) rfl (fun ls hl => ?_)
  refine lv_goto (tgt := 12) hx hb dX11_levels_99 (by decide) ?_
  exact hk12 _ _ _ _ _ Z (lv_sub hl [1, 2, 0] rfl) h
set_option maxRecDepth 20000 in
theorem w_X11_levels_19 {p : Program} {l : Launch} {e : Env} {s : State} {m : MethodId} {args : Array Value} {below : List Frame} {meth : Method} {c : Code} {Q : State → Prop} {D : va_G} {kc : Nat → ClassId} {ad : Nat → Nat} {A : Nat → Prop} (C : Cx eM p s m args c cX11_levels 5 RX11 D kc A) {R : St} {x1 : Int32} {x2 : Int32} (hR : RTv 0 0 p l e r_X11_levels s m args below meth c cX11_levels tM kc ad D A Q R) {k12 : Int32 → St → Option (St)} (hk12 : ∀ (x2 : Int32) (σ : St) (H : Heap) (locs : List Loc) (ls : Array Slot), Dy tM kc ad D A s.heap σ H locs → lv_has ls 5 [(0, .ref (ad 0)), (1, .int x1), (2, .int x2)] → k12 x2 σ = some R → W p l e r_X11_levels s m args below meth c H locs 0 0 Q (F0 m 12 ls [])) : ∀ (n : Nat) (x3 : Int32) (σ : St) (H : Heap) (locs : List Loc) (ls : Array Slot), Dy tM kc ad D A s.heap σ H locs → lv_has ls 5 [(0, .ref (ad 0)), (1, .int x1), (2, .int x2), (3, .int x3)] → f_X11_levels_19 x1 x2 k12 n x3 σ = some R → W p l e r_X11_levels s m args below meth c H locs 0 0 Q (F0 m 19 ls []) := by
  have hx := C.1.1
  have hb := C.1.2.1
  intro n
  induction n with
  | zero =>
    intro x3 σ H locs ls Z hl h
    exact absurd (show none = some R from h) (by simp)
  | succ n ih =>
    intro x3 σ H locs ls Z hl h
    rw [f_X11_levels_19] at h
    refine lv_iload_n hx hb dX11_levels_19 rfl (lv_at hl 3 rfl) ?_
    refine lv_iload_n hx hb dX11_levels_20 rfl (lv_at hl 1 rfl) ?_
    refine lv_icmp_ge (tgt := 96) hx hb dX11_levels_21 (by decide) (fun c21 => ?_) (fun c21 => ?_)
    · have h := ip h c21
      exact w_X11_levels_96 C hR hk12 Z (lv_sub hl [0, 1, 2] rfl) h
    · have h := im h c21
      refine lv_iload_n hx hb dX11_levels_24 rfl (lv_at hl 3 rfl) ?_
      refine lv_iload_n hx hb dX11_levels_25 rfl (lv_at hl 2 rfl) ?_
      refine lv_icmp_ne (tgt := 32) hx hb dX11_levels_26 (by decide) (fun c26 => ?_) (fun c26 => ?_)
      · have h := im h c26
        refine lv_iconst (v := 0) hx hb dX11_levels_32 (by decide) ?_
        refine lv_istore (lv' := [(4, .int 0), (0, .ref (ad 0)), (1, .int x1), (2, .int x2), (3, .int x3)]) hx hb dX11_levels_33 hl (by decide) rfl (fun ls hl => ?_)
        exact w_X11_levels_35 C hR ih hk12 _ _ _ _ _ _ Z (lv_sub hl [1, 2, 3, 4, 0] rfl) h
      · have h := ip h c26
        refine lv_goto (tgt := 90) hx hb dX11_levels_29 (by decide) ?_
        exact w_X11_levels_90 C hR ih hk12 Z (lv_sub hl [0, 1, 2, 3] rfl) h
set_option maxRecDepth 20000 in
theorem w_X11_levels_104 {p : Program} {l : Launch} {e : Env} {s : State} {m : MethodId} {args : Array Value} {below : List Frame} {meth : Method} {c : Code} {Q : State → Prop} {D : va_G} {kc : Nat → ClassId} {ad : Nat → Nat} {A : Nat → Prop} (C : Cx eM p s m args c cX11_levels 5 RX11 D kc A) {R : St} (hR : RTv 0 0 p l e r_X11_levels s m args below meth c cX11_levels tM kc ad D A Q R) : ∀ (n : Nat) (x2 : Int32) (σ : St) (H : Heap) (locs : List Loc) (ls : Array Slot), Dy tM kc ad D A s.heap σ H locs → lv_has ls 5 [(0, .ref (ad 0)), (2, .int x2)] → f_X11_levels_104 n x2 σ = some R → W p l e r_X11_levels s m args below meth c H locs 0 0 Q (F0 m 104 ls []) := by
  have hx := C.1.1
  have hb := C.1.2.1
  intro n
  induction n with
  | zero =>
    intro x2 σ H locs ls Z hl h
    exact absurd (show none = some R from h) (by simp)
  | succ n ih =>
    intro x2 σ H locs ls Z hl h
    rw [f_X11_levels_104] at h
    refine lv_iload_n hx hb dX11_levels_104 rfl (lv_at hl 1 rfl) ?_
    refine lv_sipush (v := 16250) hx hb dX11_levels_105 (by decide) ?_
    refine lv_icmp_ge (tgt := 129) hx hb dX11_levels_108 (by decide) (fun c108 => ?_) (fun c108 => ?_)
    · have h := ip h c108
      obtain rfl := Option.some.inj h
      exact hR _ _ _ _ Z dX11_levels_129
    · have h := im h c108
      refine lv_aload_n hx hb dX11_levels_111 rfl (lv_at hl 0 rfl) ?_
      refine rg_X11_154 C Z dX11_levels_112 ?_
      refine lv_iload_n hx hb dX11_levels_115 rfl (lv_at hl 1 rfl) ?_
      refine lv_aload_n hx hb dX11_levels_116 rfl (lv_at hl 0 rfl) ?_
      refine rg_X11_158 C Z dX11_levels_117 ?_
      refine lv_iload_n hx hb dX11_levels_120 rfl (lv_at hl 1 rfl) ?_
      obtain ⟨v28, hv28, h⟩ := ob h
      refine g_zald C Z iaM40 hv28 dX11_levels_121 ?_
      obtain ⟨σ29, hσ29, h⟩ := ob h
      refine g_zast C Z iaM39 hσ29 dX11_levels_122 (fun H locs Z => ?_)
      obtain ⟨v30, ev30, h⟩ := lb h
      refine lv_iinc (v := v30) (lv' := [(2, .int v30), (0, .ref (ad 0))]) hx hb dX11_levels_123 hl (k := 1) rfl (by rw [ev30]; rfl) (by decide) rfl (fun ls hl => ?_)
      refine lv_goto (tgt := 104) hx hb dX11_levels_126 (by decide) ?_
      exact ih _ _ _ _ _ Z (lv_sub hl [1, 0] rfl) h
set_option maxRecDepth 20000 in
theorem w_X11_levels_102 {p : Program} {l : Launch} {e : Env} {s : State} {m : MethodId} {args : Array Value} {below : List Frame} {meth : Method} {c : Code} {Q : State → Prop} {D : va_G} {kc : Nat → ClassId} {ad : Nat → Nat} {A : Nat → Prop} (C : Cx eM p s m args c cX11_levels 5 RX11 D kc A) {R : St} {σ : St} (hR : RTv 0 0 p l e r_X11_levels s m args below meth c cX11_levels tM kc ad D A Q R) {H : Heap} {locs : List Loc} {ls : Array Slot} (Z : Dy tM kc ad D A s.heap σ H locs) (hl : lv_has ls 5 [(0, .ref (ad 0))]) (h : f_X11_levels_102 σ = some R) : W p l e r_X11_levels s m args below meth c H locs 0 0 Q (F0 m 102 ls []) := by
  have hx := C.1.1
  have hb := C.1.2.1
  unfold f_X11_levels_102 at h
  refine lv_iconst (v := 0) hx hb dX11_levels_102 (by decide) ?_
  refine lv_istore_n (lv' := [(2, .int 0), (0, .ref (ad 0))]) hx hb dX11_levels_103 rfl hl (by decide) rfl (fun ls hl => ?_)
  exact w_X11_levels_104 C hR _ _ _ _ _ _ Z (lv_sub hl [1, 0] rfl) h
set_option maxRecDepth 20000 in
theorem w_X11_levels_12 {p : Program} {l : Launch} {e : Env} {s : State} {m : MethodId} {args : Array Value} {below : List Frame} {meth : Method} {c : Code} {Q : State → Prop} {D : va_G} {kc : Nat → ClassId} {ad : Nat → Nat} {A : Nat → Prop} (C : Cx eM p s m args c cX11_levels 5 RX11 D kc A) {R : St} {x1 : Int32} (hR : RTv 0 0 p l e r_X11_levels s m args below meth c cX11_levels tM kc ad D A Q R) : ∀ (n : Nat) (x2 : Int32) (σ : St) (H : Heap) (locs : List Loc) (ls : Array Slot), Dy tM kc ad D A s.heap σ H locs → lv_has ls 5 [(0, .ref (ad 0)), (1, .int x1), (2, .int x2)] → f_X11_levels_12 x1 n x2 σ = some R → W p l e r_X11_levels s m args below meth c H locs 0 0 Q (F0 m 12 ls []) := by
  have hx := C.1.1
  have hb := C.1.2.1
  intro n
  induction n with
  | zero =>
    intro x2 σ H locs ls Z hl h
    exact absurd (show none = some R from h) (by simp)
  | succ n ih =>
    intro x2 σ H locs ls Z hl h
    rw [f_X11_levels_12] at h
    refine lv_iload_n hx hb dX11_levels_12 rfl (lv_at hl 2 rfl) ?_
    refine lv_iload_n hx hb dX11_levels_13 rfl (lv_at hl 1 rfl) ?_
    refine lv_icmp_ge (tgt := 102) hx hb dX11_levels_14 (by decide) (fun c14 => ?_) (fun c14 => ?_)
    · have h := ip h c14
      exact w_X11_levels_102 C hR Z (lv_sub hl [0] rfl) h
    · have h := im h c14
      refine lv_iconst (v := (-1)) hx hb dX11_levels_17 (by decide) ?_
      refine lv_istore_n (lv' := [(3, .int (-1)), (0, .ref (ad 0)), (1, .int x1), (2, .int x2)]) hx hb dX11_levels_18 rfl hl (by decide) rfl (fun ls hl => ?_)
      exact w_X11_levels_19 C hR ih _ _ _ _ _ _ Z (lv_sub hl [1, 2, 3, 0] rfl) h
set_option maxRecDepth 20000 in
theorem w_X11_levels_0 {p : Program} {l : Launch} {e : Env} {s : State} {m : MethodId} {args : Array Value} {below : List Frame} {meth : Method} {c : Code} {Q : State → Prop} {D : va_G} {kc : Nat → ClassId} {ad : Nat → Nat} {A : Nat → Prop} (C : Cx eM p s m args c cX11_levels 5 RX11 D kc A) {R : St} {σ : St} (hR : RTv 0 0 p l e r_X11_levels s m args below meth c cX11_levels tM kc ad D A Q R) {H : Heap} {locs : List Loc} {ls : Array Slot} (Z : Dy tM kc ad D A s.heap σ H locs) (hl : lv_has ls 5 [(0, .ref (ad 0))]) (h : f_X11_levels σ = some R) : W p l e r_X11_levels s m args below meth c H locs 0 0 Q (F0 m 0 ls []) := by
  have hx := C.1.1
  have hb := C.1.2.1
  unfold f_X11_levels at h
  refine lv_aload_n hx hb dX11_levels_0 rfl (lv_at hl 0 rfl) ?_
  refine rg_X11_491 C Z dX11_levels_1 ?_
  refine lv_aload_n hx hb dX11_levels_4 rfl (lv_at hl 0 rfl) ?_
  refine rg_X11_494 C Z dX11_levels_5 ?_
  refine lv_imul hx hb dX11_levels_8 ?_
  obtain ⟨v21, ev21, h⟩ := lb h
  refine tn_i ev21 ?_
  refine lv_istore_n (lv' := [(1, .int v21), (0, .ref (ad 0))]) hx hb dX11_levels_9 rfl hl (by decide) rfl (fun ls hl => ?_)
  refine lv_iconst (v := 0) hx hb dX11_levels_10 (by decide) ?_
  refine lv_istore_n (lv' := [(2, .int 0), (1, .int v21), (0, .ref (ad 0))]) hx hb dX11_levels_11 rfl hl (by decide) rfl (fun ls hl => ?_)
  exact w_X11_levels_12 C hR _ _ _ _ _ _ Z (lv_sub hl [2, 1, 0] rfl) h
theorem k_X11_levels {l : Launch} {kc : Nat → ClassId} {ad : Nat → Nat} {D : va_G} {σ : St} {R : St} (h : f_X11_levels σ = some R) : KC eM tM kc ad D l yX11_levels (.code yX11_levels cX11_levels 5 none) r_X11_levels [.ref (ad 0)] none σ R := by
  refine g_enter (by decide) (Nat.le_of_ble_eq_true rfl) ?_
  intro p e s m args below meth c A hA C hr hlocks Z ls hl
  have hl : lv_has ls 5 [(0, .ref (ad 0))] := hl
  exact w_X11_levels_0 C (g_RTv C.1.1 C.1.2.1 hr hlocks hA)  Z hl h
def r_X11_hook : Room := { frames := 6, cells := 0, slots := 0, locals := 149 }
set_option maxRecDepth 20000 in
theorem w_X11_hook_196 {p : Program} {l : Launch} {e : Env} {s : State} {m : MethodId} {args : Array Value} {below : List Frame} {meth : Method} {c : Code} {Q : State → Prop} {D : va_G} {kc : Nat → ClassId} {ad : Nat → Nat} {A : Nat → Prop} (C : Cx eM p s m args c cX11_hook 10 RX11 D kc A) {R : Int32 × St} {x8 : Int32} {x9 : Int32} {σ : St} (hR : RTi 0 0 p l e r_X11_hook s m args below meth c cX11_hook tM kc ad D A Q .int R.1 R.2) {H : Heap} {locs : List Loc} {ls : Array Slot} (Z : Dy tM kc ad D A s.heap σ H locs) (hl : lv_has ls 10 [(0, .ref (ad 0)), (8, .int x8), (9, .int x9)]) (h : f_X11_hook_196 x8 x9 σ = some R) : W p l e r_X11_hook s m args below meth c H locs 0 0 Q (F0 m 196 ls []) := by
  have hx := C.1.1
  have hb := C.1.2.1
  unfold f_X11_hook_196 at h
  refine lv_aload_n hx hb dX11_hook_196 rfl (lv_at hl 0 rfl) ?_
  refine lv_iload hx hb dX11_hook_197 (lv_at hl 2 rfl) ?_
  obtain ⟨σ31, eσ31, h⟩ := lb h
  refine rp_X11_161 C Z eσ31 dX11_hook_199 (fun H locs Z => ?_)
  refine lv_iload hx hb dX11_hook_202 (lv_at hl 1 rfl) ?_
  obtain rfl := Option.some.inj h
  exact hR _ _ _ _ _ Z dX11_hook_204 rfl
set_option maxRecDepth 20000 in
theorem w_X11_hook_173 {p : Program} {l : Launch} {e : Env} {s : State} {m : MethodId} {args : Array Value} {below : List Frame} {meth : Method} {c : Code} {Q : State → Prop} {D : va_G} {kc : Nat → ClassId} {ad : Nat → Nat} {A : Nat → Prop} (C : Cx eM p s m args c cX11_hook 10 RX11 D kc A) {R : Int32 × St} {x3 : Int32} {x4 : Int32} {x5 : Int32} {x6 : Int32} (hR : RTi 0 0 p l e r_X11_hook s m args below meth c cX11_hook tM kc ad D A Q .int R.1 R.2) : ∀ (n : Nat) (x8 : Int32) (σ : St) (H : Heap) (locs : List Loc) (ls : Array Slot), Dy tM kc ad D A s.heap σ H locs → lv_has ls 10 [(0, .ref (ad 0)), (3, .int x3), (4, .int x4), (5, .int x5), (6, .int x6), (8, .int x8)] → f_X11_hook_173 x3 x4 x5 x6 n x8 σ = some R → W p l e r_X11_hook s m args below meth c H locs 0 0 Q (F0 m 173 ls []) := by
  have hx := C.1.1
  have hb := C.1.2.1
  intro n
  induction n with
  | zero =>
    intro x8 σ H locs ls Z hl h
    exact absurd (show none = some R from h) (by simp)
  | succ n ih =>
    intro x8 σ H locs ls Z hl h
    rw [f_X11_hook_173] at h
    refine lv_iload hx hb dX11_hook_173 (lv_at hl 5 rfl) ?_
    refine lv_iload hx hb dX11_hook_175 (lv_at hl 4 rfl) ?_
    refine lv_icmp_gt (tgt := 215) hx hb dX11_hook_177 (by decide) (fun c177 => ?_) (fun c177 => ?_)
    · have h := ip h c177
      refine lv_bipush (v := (-2)) hx hb dX11_hook_215 (by decide) ?_
      obtain rfl := Option.some.inj h
      exact hR _ _ _ _ _ Z dX11_hook_217 rfl
    · have h := im h c177
      refine lv_aload_n hx hb dX11_hook_180 rfl (lv_at hl 0 rfl) ?_
      refine lv_iload_n hx hb dX11_hook_181 rfl (lv_at hl 1 rfl) ?_
      refine lv_iload hx hb dX11_hook_182 (lv_at hl 2 rfl) ?_
      refine lv_iload hx hb dX11_hook_184 (lv_at hl 3 rfl) ?_
      obtain ⟨v28, hv28, h⟩ := ob h
      refine g_callVi eM_ok C Z (k_X11_firstHook hv28) lk_X11_509 (by decide) rfl rfl hl (by decide) rfl (Nat.le_of_ble_eq_true rfl) (rest := []) rfl dX11_hook_186 (fun H locs Z => ?_)
      refine lv_istore (lv' := [(9, .int v28), (0, .ref (ad 0)), (3, .int x3), (4, .int x4), (5, .int x5), (6, .int x6), (8, .int x8)]) hx hb dX11_hook_189 hl (by decide) rfl (fun ls hl => ?_)
      refine lv_iload hx hb dX11_hook_191 (lv_at hl 0 rfl) ?_
      refine lv_if_lt (tgt := 205) hx hb dX11_hook_193 (by decide) (fun c193 => ?_) (fun c193 => ?_)
      · have h := ip h c193
        refine lv_aload_n hx hb dX11_hook_205 rfl (lv_at hl 1 rfl) ?_
        obtain ⟨σ29, hσ29, h⟩ := ob h
        refine g_callVv eM_ok C Z (k_X11_levels hσ29) lk_X11_516 (by decide) rfl rfl hl (by decide) rfl (Nat.le_of_ble_eq_true rfl) (rest := []) rfl dX11_hook_206 (fun H locs Z => ?_)
        obtain ⟨v30, ev30, h⟩ := lb h
        refine lv_iinc (v := v30) (lv' := [(8, .int v30), (9, .int v28), (0, .ref (ad 0)), (3, .int x3), (4, .int x4), (5, .int x5), (6, .int x6)]) hx hb dX11_hook_209 hl (k := 6) rfl (by rw [ev30]; rfl) (by decide) rfl (fun ls hl => ?_)
        refine lv_goto (tgt := 173) hx hb dX11_hook_212 (by decide) ?_
        exact ih _ _ _ _ _ Z (lv_sub hl [2, 3, 4, 5, 6, 0] rfl) h
      · have h := im h c193
        exact w_X11_hook_196 C hR Z (lv_sub hl [1, 6, 0] rfl) h
set_option maxRecDepth 20000 in
theorem w_X11_hook_170 {p : Program} {l : Launch} {e : Env} {s : State} {m : MethodId} {args : Array Value} {below : List Frame} {meth : Method} {c : Code} {Q : State → Prop} {D : va_G} {kc : Nat → ClassId} {ad : Nat → Nat} {A : Nat → Prop} (C : Cx eM p s m args c cX11_hook 10 RX11 D kc A) {R : Int32 × St} {x3 : Int32} {x4 : Int32} {x5 : Int32} {x6 : Int32} {σ : St} (hR : RTi 0 0 p l e r_X11_hook s m args below meth c cX11_hook tM kc ad D A Q .int R.1 R.2) {H : Heap} {locs : List Loc} {ls : Array Slot} (Z : Dy tM kc ad D A s.heap σ H locs) (hl : lv_has ls 10 [(0, .ref (ad 0)), (3, .int x3), (4, .int x4), (5, .int x5), (6, .int x6)]) (h : f_X11_hook_170 x3 x4 x5 x6 σ = some R) : W p l e r_X11_hook s m args below meth c H locs 0 0 Q (F0 m 170 ls []) := by
  have hx := C.1.1
  have hb := C.1.2.1
  unfold f_X11_hook_170 at h
  refine lv_iconst (v := 1) hx hb dX11_hook_170 (by decide) ?_
  refine lv_istore (lv' := [(8, .int 1), (0, .ref (ad 0)), (3, .int x3), (4, .int x4), (5, .int x5), (6, .int x6)]) hx hb dX11_hook_171 hl (by decide) rfl (fun ls hl => ?_)
  exact w_X11_hook_173 C hR _ _ _ _ _ _ Z (lv_sub hl [1, 2, 3, 4, 5, 0] rfl) h
set_option maxRecDepth 20000 in
theorem w_X11_hook_120 {p : Program} {l : Launch} {e : Env} {s : State} {m : MethodId} {args : Array Value} {below : List Frame} {meth : Method} {c : Code} {Q : State → Prop} {D : va_G} {kc : Nat → ClassId} {ad : Nat → Nat} {A : Nat → Prop} (C : Cx eM p s m args c cX11_hook 10 RX11 D kc A) {R : Int32 × St} {x3 : Int32} {x4 : Int32} {x5 : Int32} {x6 : Int32} (hR : RTi 0 0 p l e r_X11_hook s m args below meth c cX11_hook tM kc ad D A Q .int R.1 R.2) : ∀ (n : Nat) (x8 : Int32) (σ : St) (H : Heap) (locs : List Loc) (ls : Array Slot), Dy tM kc ad D A s.heap σ H locs → lv_has ls 10 [(0, .ref (ad 0)), (3, .int x3), (4, .int x4), (5, .int x5), (6, .int x6), (8, .int x8)] → f_X11_hook_120 x3 x4 x5 x6 n x8 σ = some R → W p l e r_X11_hook s m args below meth c H locs 0 0 Q (F0 m 120 ls []) := by
  have hx := C.1.1
  have hb := C.1.2.1
  intro n
  induction n with
  | zero =>
    intro x8 σ H locs ls Z hl h
    exact absurd (show none = some R from h) (by simp)
  | succ n ih =>
    intro x8 σ H locs ls Z hl h
    rw [f_X11_hook_120] at h
    refine lv_iload hx hb dX11_hook_120 (lv_at hl 5 rfl) ?_
    refine lv_sipush (v := 16250) hx hb dX11_hook_122 (by decide) ?_
    refine lv_icmp_ge (tgt := 170) hx hb dX11_hook_125 (by decide) (fun c125 => ?_) (fun c125 => ?_)
    · have h := ip h c125
      exact w_X11_hook_170 C hR Z (lv_sub hl [0, 1, 2, 3, 4] rfl) h
    · have h := im h c125
      refine lv_aload_n hx hb dX11_hook_128 rfl (lv_at hl 0 rfl) ?_
      refine rg_X11_154 C Z dX11_hook_129 ?_
      refine lv_iload hx hb dX11_hook_132 (lv_at hl 5 rfl) ?_
      refine lv_iload hx hb dX11_hook_134 (lv_at hl 5 rfl) ?_
      refine lv_bipush (v := 25) hx hb dX11_hook_136 (by decide) ?_
      refine lv_idiv hx hb dX11_hook_138 (by decide) ?_
      refine lv_bipush (v := 26) hx hb dX11_hook_139 (by decide) ?_
      refine lv_idiv hx hb dX11_hook_141 (by decide) ?_
      refine lv_iload hx hb dX11_hook_142 (lv_at hl 5 rfl) ?_
      refine lv_bipush (v := 25) hx hb dX11_hook_144 (by decide) ?_
      refine lv_irem hx hb dX11_hook_146 (by decide) ?_
      obtain ⟨v24, ev24, h⟩ := lb h
      have hj : W p l e r_X11_hook s m args below meth c H locs 0 0 Q (F0 m 155 ls [.int v24, .int x8, .ref (ad 39)]) := by
        obtain ⟨σ25, hσ25, h⟩ := ob h
        refine g_zast C Z iaM39 hσ25 dX11_hook_155 (fun H locs Z => ?_)
        refine lv_aload_n hx hb dX11_hook_156 rfl (lv_at hl 0 rfl) ?_
        refine rg_X11_158 C Z dX11_hook_157 ?_
        refine lv_iload hx hb dX11_hook_160 (lv_at hl 5 rfl) ?_
        refine lv_iconst (v := 0) hx hb dX11_hook_162 (by decide) ?_
        obtain ⟨σ26, hσ26, h⟩ := ob h
        refine g_zast C Z iaM40 hσ26 dX11_hook_163 (fun H locs Z => ?_)
        obtain ⟨v27, ev27, h⟩ := lb h
        refine lv_iinc (v := v27) (lv' := [(8, .int v27), (0, .ref (ad 0)), (3, .int x3), (4, .int x4), (5, .int x5), (6, .int x6)]) hx hb dX11_hook_164 hl (k := 5) rfl (by rw [ev27]; rfl) (by decide) rfl (fun ls hl => ?_)
        refine lv_goto (tgt := 120) hx hb dX11_hook_167 (by decide) ?_
        exact ih _ _ _ _ _ Z (lv_sub hl [1, 2, 3, 4, 5, 0] rfl) h
      refine lv_icmp_ne (tgt := 154) hx hb dX11_hook_147 (by decide) (fun c147 => ?_) (fun c147 => ?_)
      · rw [if_neg c147] at ev24
        refine lv_iconst (v := 0) hx hb dX11_hook_154 (by decide) ?_
        exact tn_i ev24 hj
      · rw [if_pos c147] at ev24
        refine lv_iconst (v := 1) hx hb dX11_hook_150 (by decide) ?_
        refine lv_goto (tgt := 155) hx hb dX11_hook_151 (by decide) ?_
        exact tn_i ev24 hj
set_option maxRecDepth 20000 in
theorem w_X11_hook_0 {p : Program} {l : Launch} {e : Env} {s : State} {m : MethodId} {args : Array Value} {below : List Frame} {meth : Method} {c : Code} {Q : State → Prop} {D : va_G} {kc : Nat → ClassId} {ad : Nat → Nat} {A : Nat → Prop} (C : Cx eM p s m args c cX11_hook 10 RX11 D kc A) {R : Int32 × St} {x1 : Int32} {x2 : Int32} {x3 : Int32} {x4 : Int32} {x5 : Int32} {x6 : Int32} {σ : St} (hR : RTi 0 0 p l e r_X11_hook s m args below meth c cX11_hook tM kc ad D A Q .int R.1 R.2) {H : Heap} {locs : List Loc} {ls : Array Slot} (Z : Dy tM kc ad D A s.heap σ H locs) (hl : lv_has ls 10 [(0, .ref (ad 0)), (1, .int x1), (2, .int x2), (3, .int x3), (4, .int x4), (5, .int x5), (6, .int x6)]) (h : f_X11_hook x1 x2 x3 x4 x5 x6 σ = some R) : W p l e r_X11_hook s m args below meth c H locs 0 0 Q (F0 m 0 ls []) := by
  have hx := C.1.1
  have hb := C.1.2.1
  unfold f_X11_hook at h
  refine lv_iload_n hx hb dX11_hook_0 rfl (lv_at hl 1 rfl) ?_
  refine lv_i2l (v := x1.toInt64) hx hb dX11_hook_1 rfl ?_
  refine lv_lconst (v := 1) hx hb dX11_hook_2 (by decide) ?_
  refine lv_ldc2 (v := 5) hx hb C.1.2.2.2.1 (C.1.2.2.2.2 _ wDL_X11_512) dX11_hook_3 ?_
  refine g_callSi eM_ok C Z (k_X11_in x1.toInt64 1 5 σ) lk_X11_233 hl (by decide) rfl (Nat.le_of_ble_eq_true rfl) (rest := []) rfl dX11_hook_6 (fun H locs Z => ?_)
  refine lv_if_eq (tgt := 37) hx hb dX11_hook_9 (by decide) (fun c9 => ?_) (fun c9 => ?_)
  · have h := ip h c9
    refine lv_iconst (v := (-1)) hx hb dX11_hook_37 (by decide) ?_
    obtain rfl := Option.some.inj h
    exact hR _ _ _ _ _ Z dX11_hook_38 rfl
  · have h := im h c9
    refine lv_iload_n hx hb dX11_hook_12 rfl (lv_at hl 2 rfl) ?_
    refine lv_i2l (v := x2.toInt64) hx hb dX11_hook_13 rfl ?_
    refine lv_lconst (v := 1) hx hb dX11_hook_14 (by decide) ?_
    refine lv_ldc2 (v := 5) hx hb C.1.2.2.2.1 (C.1.2.2.2.2 _ wDL_X11_512) dX11_hook_15 ?_
    refine g_callSi eM_ok C Z (k_X11_in x2.toInt64 1 5 σ) lk_X11_233 hl (by decide) rfl (Nat.le_of_ble_eq_true rfl) (rest := []) rfl dX11_hook_18 (fun H locs Z => ?_)
    refine lv_if_eq (tgt := 37) hx hb dX11_hook_21 (by decide) (fun c21 => ?_) (fun c21 => ?_)
    · have h := ip h c21
      refine lv_iconst (v := (-1)) hx hb dX11_hook_37 (by decide) ?_
      obtain rfl := Option.some.inj h
      exact hR _ _ _ _ _ Z dX11_hook_38 rfl
    · have h := im h c21
      refine lv_iload hx hb dX11_hook_24 (lv_at hl 6 rfl) ?_
      refine lv_i2l (v := x6.toInt64) hx hb dX11_hook_26 rfl ?_
      refine lv_lconst (v := 0) hx hb dX11_hook_27 (by decide) ?_
      refine lv_ldc2 (v := 8) hx hb C.1.2.2.2.1 (C.1.2.2.2.2 _ wDL_X11_514) dX11_hook_28 ?_
      refine g_callSi eM_ok C Z (k_X11_in x6.toInt64 0 8 σ) lk_X11_233 hl (by decide) rfl (Nat.le_of_ble_eq_true rfl) (rest := []) rfl dX11_hook_31 (fun H locs Z => ?_)
      refine lv_if_ne (tgt := 39) hx hb dX11_hook_34 (by decide) (fun c34 => ?_) (fun c34 => ?_)
      · have h := im h c34
        refine lv_iload_n hx hb dX11_hook_39 rfl (lv_at hl 1 rfl) ?_
        refine lv_iload_n hx hb dX11_hook_40 rfl (lv_at hl 2 rfl) ?_
        refine lv_imul hx hb dX11_hook_41 ?_
        obtain ⟨v21, ev21, h⟩ := lb h
        refine tn_i ev21 ?_
        refine lv_istore (lv' := [(7, .int v21), (0, .ref (ad 0)), (1, .int x1), (2, .int x2), (3, .int x3), (4, .int x4), (5, .int x5), (6, .int x6)]) hx hb dX11_hook_42 hl (by decide) rfl (fun ls hl => ?_)
        refine lv_iload_n hx hb dX11_hook_44 rfl (lv_at hl 4 rfl) ?_
        refine lv_i2l (v := x3.toInt64) hx hb dX11_hook_45 rfl ?_
        refine lv_lconst (v := 0) hx hb dX11_hook_46 (by decide) ?_
        refine lv_iload hx hb dX11_hook_47 (lv_at hl 0 rfl) ?_
        refine lv_iconst (v := 1) hx hb dX11_hook_49 (by decide) ?_
        refine lv_isub hx hb dX11_hook_50 ?_
        refine lv_i2l (v := (v21 - 1).toInt64) hx hb dX11_hook_51 rfl ?_
        refine g_callSi eM_ok C Z (k_X11_in x3.toInt64 0 ((v21 - 1).toInt64) σ) lk_X11_233 hl (by decide) rfl (Nat.le_of_ble_eq_true rfl) (rest := []) rfl dX11_hook_52 (fun H locs Z => ?_)
        refine lv_if_eq (tgt := 97) hx hb dX11_hook_55 (by decide) (fun c55 => ?_) (fun c55 => ?_)
        · have h := ip h c55
          refine lv_iconst (v := (-1)) hx hb dX11_hook_97 (by decide) ?_
          obtain rfl := Option.some.inj h
          exact hR _ _ _ _ _ Z dX11_hook_98 rfl
        · have h := im h c55
          refine lv_iload hx hb dX11_hook_58 (lv_at hl 5 rfl) ?_
          refine lv_i2l (v := x4.toInt64) hx hb dX11_hook_60 rfl ?_
          refine lv_lconst (v := 0) hx hb dX11_hook_61 (by decide) ?_
          refine lv_iload hx hb dX11_hook_62 (lv_at hl 0 rfl) ?_
          refine lv_iconst (v := 1) hx hb dX11_hook_64 (by decide) ?_
          refine lv_isub hx hb dX11_hook_65 ?_
          refine lv_i2l (v := (v21 - 1).toInt64) hx hb dX11_hook_66 rfl ?_
          refine g_callSi eM_ok C Z (k_X11_in x4.toInt64 0 ((v21 - 1).toInt64) σ) lk_X11_233 hl (by decide) rfl (Nat.le_of_ble_eq_true rfl) (rest := []) rfl dX11_hook_67 (fun H locs Z => ?_)
          refine lv_if_eq (tgt := 97) hx hb dX11_hook_70 (by decide) (fun c70 => ?_) (fun c70 => ?_)
          · have h := ip h c70
            refine lv_iconst (v := (-1)) hx hb dX11_hook_97 (by decide) ?_
            obtain rfl := Option.some.inj h
            exact hR _ _ _ _ _ Z dX11_hook_98 rfl
          · have h := im h c70
            refine lv_iload hx hb dX11_hook_73 (lv_at hl 6 rfl) ?_
            refine lv_i2l (v := x5.toInt64) hx hb dX11_hook_75 rfl ?_
            refine lv_ldc2 (v := (-1)) hx hb C.1.2.2.2.1 (C.1.2.2.2.2 _ wDL_X11_314) dX11_hook_76 ?_
            refine lv_iload hx hb dX11_hook_79 (lv_at hl 0 rfl) ?_
            refine lv_iconst (v := 1) hx hb dX11_hook_81 (by decide) ?_
            refine lv_isub hx hb dX11_hook_82 ?_
            refine lv_i2l (v := (v21 - 1).toInt64) hx hb dX11_hook_83 rfl ?_
            refine g_callSi eM_ok C Z (k_X11_in x5.toInt64 (-1) ((v21 - 1).toInt64) σ) lk_X11_233 hl (by decide) rfl (Nat.le_of_ble_eq_true rfl) (rest := []) rfl dX11_hook_84 (fun H locs Z => ?_)
            refine lv_if_eq (tgt := 97) hx hb dX11_hook_87 (by decide) (fun c87 => ?_) (fun c87 => ?_)
            · have h := ip h c87
              refine lv_iconst (v := (-1)) hx hb dX11_hook_97 (by decide) ?_
              obtain rfl := Option.some.inj h
              exact hR _ _ _ _ _ Z dX11_hook_98 rfl
            · have h := im h c87
              refine lv_iload hx hb dX11_hook_90 (lv_at hl 5 rfl) ?_
              refine lv_iload hx hb dX11_hook_92 (lv_at hl 6 rfl) ?_
              refine lv_icmp_ne (tgt := 99) hx hb dX11_hook_94 (by decide) (fun c94 => ?_) (fun c94 => ?_)
              · have h := im h c94
                refine lv_iload_n hx hb dX11_hook_99 rfl (lv_at hl 4 rfl) ?_
                refine lv_iload hx hb dX11_hook_100 (lv_at hl 5 rfl) ?_
                refine lv_icmp_ne (tgt := 107) hx hb dX11_hook_102 (by decide) (fun c102 => ?_) (fun c102 => ?_)
                · have h := im h c102
                  refine lv_aload_n hx hb dX11_hook_107 rfl (lv_at hl 1 rfl) ?_
                  refine lv_iload_n hx hb dX11_hook_108 rfl (lv_at hl 2 rfl) ?_
                  obtain ⟨σ22, eσ22, h⟩ := lb h
                  refine rp_X11_491 C Z eσ22 dX11_hook_109 (fun H locs Z => ?_)
                  refine lv_aload_n hx hb dX11_hook_112 rfl (lv_at hl 1 rfl) ?_
                  refine lv_iload_n hx hb dX11_hook_113 rfl (lv_at hl 3 rfl) ?_
                  obtain ⟨σ23, eσ23, h⟩ := lb h
                  refine rp_X11_494 C Z eσ23 dX11_hook_114 (fun H locs Z => ?_)
                  refine lv_iconst (v := 0) hx hb dX11_hook_117 (by decide) ?_
                  refine lv_istore (lv' := [(8, .int 0), (7, .int v21), (0, .ref (ad 0)), (1, .int x1), (2, .int x2), (3, .int x3), (4, .int x4), (5, .int x5), (6, .int x6)]) hx hb dX11_hook_118 hl (by decide) rfl (fun ls hl => ?_)
                  exact w_X11_hook_120 C hR _ _ _ _ _ _ Z (lv_sub hl [2, 5, 6, 7, 8, 0] rfl) h
                · have h := ip h c102
                  refine lv_iconst (v := 0) hx hb dX11_hook_105 (by decide) ?_
                  obtain rfl := Option.some.inj h
                  exact hR _ _ _ _ _ Z dX11_hook_106 rfl
              · have h := ip h c94
                refine lv_iconst (v := (-1)) hx hb dX11_hook_97 (by decide) ?_
                obtain rfl := Option.some.inj h
                exact hR _ _ _ _ _ Z dX11_hook_98 rfl
      · have h := ip h c34
        refine lv_iconst (v := (-1)) hx hb dX11_hook_37 (by decide) ?_
        obtain rfl := Option.some.inj h
        exact hR _ _ _ _ _ Z dX11_hook_38 rfl
theorem k_X11_hook {l : Launch} {kc : Nat → ClassId} {ad : Nat → Nat} {D : va_G} {x1 : Int32} {x2 : Int32} {x3 : Int32} {x4 : Int32} {x5 : Int32} {x6 : Int32} {σ : St} {R : Int32 × St} (h : f_X11_hook x1 x2 x3 x4 x5 x6 σ = some R) : KC eM tM kc ad D l yX11_hook (.code yX11_hook cX11_hook 10 (some .int)) r_X11_hook [.ref (ad 0), .int x1, .int x2, .int x3, .int x4, .int x5, .int x6] (some (.int R.1)) σ R.2 := by
  refine g_enter (by decide) (Nat.le_of_ble_eq_true rfl) ?_
  intro p e s m args below meth c A hA C hr hlocks Z ls hl
  have hl : lv_has ls 10 [(0, .ref (ad 0)), (1, .int x1), (2, .int x2), (3, .int x3), (4, .int x4), (5, .int x5), (6, .int x6)] := hl
  exact w_X11_hook_0 C (g_RTi C.1.1 C.1.2.1 hr hlocks hA)  Z hl h
def r_X11_hooks : Room := { frames := 0, cells := 0, slots := 0, locals := 0 }
set_option maxRecDepth 20000 in
theorem w_X11_hooks_0 {p : Program} {l : Launch} {e : Env} {s : State} {m : MethodId} {args : Array Value} {below : List Frame} {meth : Method} {c : Code} {Q : State → Prop} {D : va_G} {kc : Nat → ClassId} {ad : Nat → Nat} {A : Nat → Prop} (C : Cx eM p s m args c cX11_hooks 1 RX11 D kc A) {R : Int32} {σ : St} (hR : RTi 0 0 p l e r_X11_hooks s m args below meth c cX11_hooks tM kc ad D A Q .int R σ) {H : Heap} {locs : List Loc} {ls : Array Slot} (Z : Dy tM kc ad D A s.heap σ H locs) (hl : lv_has ls 1 [(0, .ref (ad 0))]) (h : f_X11_hooks σ = R) : W p l e r_X11_hooks s m args below meth c H locs 0 0 Q (F0 m 0 ls []) := by
  have hx := C.1.1
  have hb := C.1.2.1
  unfold f_X11_hooks at h
  refine lv_aload_n hx hb dX11_hooks_0 rfl (lv_at hl 0 rfl) ?_
  refine rg_X11_161 C Z dX11_hooks_1 ?_
  subst h
  exact hR _ _ _ _ _ Z dX11_hooks_4 rfl
theorem k_X11_hooks {l : Launch} {kc : Nat → ClassId} {ad : Nat → Nat} {D : va_G} (σ : St) : KC eM tM kc ad D l yX11_hooks (.code yX11_hooks cX11_hooks 1 (some .int)) r_X11_hooks [.ref (ad 0)] (some (.int (f_X11_hooks σ))) σ σ := by
  refine g_enter (by decide) (Nat.le_of_ble_eq_true rfl) ?_
  intro p e s m args below meth c A hA C hr hlocks Z ls hl
  have hl : lv_has ls 1 [(0, .ref (ad 0))] := hl
  exact w_X11_hooks_0 C (g_RTi C.1.1 C.1.2.1 hr hlocks hA)  Z hl rfl
def r_X11_xOf : Room := { frames := 0, cells := 0, slots := 0, locals := 0 }
set_option maxRecDepth 20000 in
theorem w_X11_xOf_0 {p : Program} {l : Launch} {e : Env} {s : State} {m : MethodId} {args : Array Value} {below : List Frame} {meth : Method} {c : Code} {Q : State → Prop} {D : va_G} {kc : Nat → ClassId} {ad : Nat → Nat} {A : Nat → Prop} (C : Cx eM p s m args c cX11_xOf 2 RX11 D kc A) {R : Int32} {x1 : Int32} {σ : St} (hR : RTi 0 0 p l e r_X11_xOf s m args below meth c cX11_xOf tM kc ad D A Q .int R σ) {H : Heap} {locs : List Loc} {ls : Array Slot} (Z : Dy tM kc ad D A s.heap σ H locs) (hl : lv_has ls 2 [(0, .ref (ad 0)), (1, .int x1)]) (h : f_X11_xOf x1 = R) : W p l e r_X11_xOf s m args below meth c H locs 0 0 Q (F0 m 0 ls []) := by
  have hx := C.1.1
  have hb := C.1.2.1
  unfold f_X11_xOf at h
  refine lv_iload_n hx hb dX11_xOf_0 rfl (lv_at hl 1 rfl) ?_
  refine lv_bipush (v := 24) hx hb dX11_xOf_1 (by decide) ?_
  refine lv_irem hx hb dX11_xOf_3 (by decide) ?_
  subst h
  exact hR _ _ _ _ _ Z dX11_xOf_4 rfl
theorem k_X11_xOf {l : Launch} {kc : Nat → ClassId} {ad : Nat → Nat} {D : va_G} (x1 : Int32) (σ : St) : KC eM tM kc ad D l yX11_xOf (.code yX11_xOf cX11_xOf 2 (some .int)) r_X11_xOf [.ref (ad 0), .int x1] (some (.int (f_X11_xOf x1))) σ σ := by
  refine g_enter (by decide) (Nat.le_of_ble_eq_true rfl) ?_
  intro p e s m args below meth c A hA C hr hlocks Z ls hl
  have hl : lv_has ls 2 [(0, .ref (ad 0)), (1, .int x1)] := hl
  exact w_X11_xOf_0 C (g_RTi C.1.1 C.1.2.1 hr hlocks hA)  Z hl rfl
def r_X11_yOf : Room := { frames := 0, cells := 0, slots := 0, locals := 0 }
set_option maxRecDepth 20000 in
theorem w_X11_yOf_0 {p : Program} {l : Launch} {e : Env} {s : State} {m : MethodId} {args : Array Value} {below : List Frame} {meth : Method} {c : Code} {Q : State → Prop} {D : va_G} {kc : Nat → ClassId} {ad : Nat → Nat} {A : Nat → Prop} (C : Cx eM p s m args c cX11_yOf 2 RX11 D kc A) {R : Int32} {x1 : Int32} {σ : St} (hR : RTi 0 0 p l e r_X11_yOf s m args below meth c cX11_yOf tM kc ad D A Q .int R σ) {H : Heap} {locs : List Loc} {ls : Array Slot} (Z : Dy tM kc ad D A s.heap σ H locs) (hl : lv_has ls 2 [(0, .ref (ad 0)), (1, .int x1)]) (h : f_X11_yOf x1 = R) : W p l e r_X11_yOf s m args below meth c H locs 0 0 Q (F0 m 0 ls []) := by
  have hx := C.1.1
  have hb := C.1.2.1
  unfold f_X11_yOf at h
  refine lv_iload_n hx hb dX11_yOf_0 rfl (lv_at hl 1 rfl) ?_
  refine lv_bipush (v := 24) hx hb dX11_yOf_1 (by decide) ?_
  refine lv_idiv hx hb dX11_yOf_3 (by decide) ?_
  subst h
  exact hR _ _ _ _ _ Z dX11_yOf_4 rfl
theorem k_X11_yOf {l : Launch} {kc : Nat → ClassId} {ad : Nat → Nat} {D : va_G} (x1 : Int32) (σ : St) : KC eM tM kc ad D l yX11_yOf (.code yX11_yOf cX11_yOf 2 (some .int)) r_X11_yOf [.ref (ad 0), .int x1] (some (.int (f_X11_yOf x1))) σ σ := by
  refine g_enter (by decide) (Nat.le_of_ble_eq_true rfl) ?_
  intro p e s m args below meth c A hA C hr hlocks Z ls hl
  have hl : lv_has ls 2 [(0, .ref (ad 0)), (1, .int x1)] := hl
  exact w_X11_yOf_0 C (g_RTi C.1.1 C.1.2.1 hr hlocks hA)  Z hl rfl
def r_X11_goes : Room := { frames := 0, cells := 0, slots := 0, locals := 0 }
set_option maxRecDepth 20000 in
theorem w_X11_goes_0 {p : Program} {l : Launch} {e : Env} {s : State} {m : MethodId} {args : Array Value} {below : List Frame} {meth : Method} {c : Code} {Q : State → Prop} {D : va_G} {kc : Nat → ClassId} {ad : Nat → Nat} {A : Nat → Prop} (C : Cx eM p s m args c cX11_goes 3 RX11 D kc A) {R : Int32} {x1 : Int32} {x2 : Int32} {σ : St} (hR : RTi 0 0 p l e r_X11_goes s m args below meth c cX11_goes tM kc ad D A Q .boolean R σ) {H : Heap} {locs : List Loc} {ls : Array Slot} (Z : Dy tM kc ad D A s.heap σ H locs) (hl : lv_has ls 3 [(0, .ref (ad 0)), (1, .int x1), (2, .int x2)]) (h : f_X11_goes x1 x2 = R) : W p l e r_X11_goes s m args below meth c H locs 0 0 Q (F0 m 0 ls []) := by
  have hx := C.1.1
  have hb := C.1.2.1
  unfold f_X11_goes at h
  refine lv_iload_n hx hb dX11_goes_0 rfl (lv_at hl 1 rfl) ?_
  refine lv_iload_n hx hb dX11_goes_1 rfl (lv_at hl 2 rfl) ?_
  obtain ⟨v1, ev1, h⟩ := lb h
  have hj : W p l e r_X11_goes s m args below meth c H locs 0 0 Q (F0 m 10 ls [.int v1]) := by
    subst h
    exact hR _ _ _ _ _ Z dX11_goes_10 (nar_b _)
  refine lv_icmp_eq (tgt := 9) hx hb dX11_goes_2 (by decide) (fun c2 => ?_) (fun c2 => ?_)
  · rw [if_pos c2] at ev1
    refine lv_iconst (v := 0) hx hb dX11_goes_9 (by decide) ?_
    exact tn_i ev1 hj
  · rw [if_neg c2] at ev1
    refine lv_iconst (v := 1) hx hb dX11_goes_5 (by decide) ?_
    refine lv_goto (tgt := 10) hx hb dX11_goes_6 (by decide) ?_
    exact tn_i ev1 hj
theorem k_X11_goes {l : Launch} {kc : Nat → ClassId} {ad : Nat → Nat} {D : va_G} (x1 : Int32) (x2 : Int32) (σ : St) : KC eM tM kc ad D l yX11_goes (.code yX11_goes cX11_goes 3 (some .boolean)) r_X11_goes [.ref (ad 0), .int x1, .int x2] (some (.int (f_X11_goes x1 x2))) σ σ := by
  refine g_enter (by decide) (Nat.le_of_ble_eq_true rfl) ?_
  intro p e s m args below meth c A hA C hr hlocks Z ls hl
  have hl : lv_has ls 3 [(0, .ref (ad 0)), (1, .int x1), (2, .int x2)] := hl
  exact w_X11_goes_0 C (g_RTi C.1.1 C.1.2.1 hr hlocks hA)  Z hl rfl
def r_X11_overtakes : Room := { frames := 1, cells := 0, slots := 0, locals := 21 }
set_option maxRecDepth 20000 in
theorem w_X11_overtakes_104 {p : Program} {l : Launch} {e : Env} {s : State} {m : MethodId} {args : Array Value} {below : List Frame} {meth : Method} {c : Code} {Q : State → Prop} {D : va_G} {kc : Nat → ClassId} {ad : Nat → Nat} {A : Nat → Prop} (C : Cx eM p s m args c cX11_overtakes 9 RX11 D kc A) {R : Int32} {σ : St} (hR : RTi 0 0 p l e r_X11_overtakes s m args below meth c cX11_overtakes tM kc ad D A Q .boolean R σ) {H : Heap} {locs : List Loc} {ls : Array Slot} (Z : Dy tM kc ad D A s.heap σ H locs) (hl : lv_has ls 9 []) (h : f_X11_overtakes_104 = R) : W p l e r_X11_overtakes s m args below meth c H locs 0 0 Q (F0 m 104 ls []) := by
  have hx := C.1.1
  have hb := C.1.2.1
  unfold f_X11_overtakes_104 at h
  refine lv_iconst (v := 0) hx hb dX11_overtakes_104 (by decide) ?_
  subst h
  exact hR _ _ _ _ _ Z dX11_overtakes_105 rfl
set_option maxRecDepth 20000 in
theorem w_X11_overtakes_0 {p : Program} {l : Launch} {e : Env} {s : State} {m : MethodId} {args : Array Value} {below : List Frame} {meth : Method} {c : Code} {Q : State → Prop} {D : va_G} {kc : Nat → ClassId} {ad : Nat → Nat} {A : Nat → Prop} (C : Cx eM p s m args c cX11_overtakes 9 RX11 D kc A) {R : Int32} {x1 : Int32} {x2 : Int32} {x3 : Int32} {x4 : Int32} {σ : St} (hR : RTi 0 0 p l e r_X11_overtakes s m args below meth c cX11_overtakes tM kc ad D A Q .boolean R σ) {H : Heap} {locs : List Loc} {ls : Array Slot} (Z : Dy tM kc ad D A s.heap σ H locs) (hl : lv_has ls 9 [(0, .ref (ad 0)), (1, .int x1), (2, .int x2), (3, .int x3), (4, .int x4)]) (h : f_X11_overtakes x1 x2 x3 x4 = R) : W p l e r_X11_overtakes s m args below meth c H locs 0 0 Q (F0 m 0 ls []) := by
  have hx := C.1.1
  have hb := C.1.2.1
  unfold f_X11_overtakes at h
  refine lv_aload_n hx hb dX11_overtakes_0 rfl (lv_at hl 0 rfl) ?_
  refine lv_iload_n hx hb dX11_overtakes_1 rfl (lv_at hl 2 rfl) ?_
  refine g_callVi eM_ok C Z (k_X11_xOf x2 σ) lk_X11_519 (by decide) rfl rfl hl (by decide) rfl (Nat.le_of_ble_eq_true rfl) (rest := []) rfl dX11_overtakes_2 (fun H locs Z => ?_)
  refine lv_aload_n hx hb dX11_overtakes_5 rfl (lv_at hl 0 rfl) ?_
  refine lv_iload_n hx hb dX11_overtakes_6 rfl (lv_at hl 1 rfl) ?_
  refine g_callVi eM_ok C Z (k_X11_xOf x1 σ) lk_X11_519 (by decide) rfl rfl hl (by decide) rfl (Nat.le_of_ble_eq_true rfl) (rest := [.int (f_X11_xOf x2)]) rfl dX11_overtakes_7 (fun H locs Z => ?_)
  refine lv_isub hx hb dX11_overtakes_10 ?_
  obtain ⟨v9, ev9, h⟩ := lb h
  refine tn_i ev9 ?_
  refine lv_istore (lv' := [(5, .int v9), (0, .ref (ad 0)), (1, .int x1), (2, .int x2), (3, .int x3), (4, .int x4)]) hx hb dX11_overtakes_11 hl (by decide) rfl (fun ls hl => ?_)
  refine lv_aload_n hx hb dX11_overtakes_13 rfl (lv_at hl 1 rfl) ?_
  refine lv_iload_n hx hb dX11_overtakes_14 rfl (lv_at hl 3 rfl) ?_
  refine g_callVi eM_ok C Z (k_X11_yOf x2 σ) lk_X11_522 (by decide) rfl rfl hl (by decide) rfl (Nat.le_of_ble_eq_true rfl) (rest := []) rfl dX11_overtakes_15 (fun H locs Z => ?_)
  refine lv_aload_n hx hb dX11_overtakes_18 rfl (lv_at hl 1 rfl) ?_
  refine lv_iload_n hx hb dX11_overtakes_19 rfl (lv_at hl 2 rfl) ?_
  refine g_callVi eM_ok C Z (k_X11_yOf x1 σ) lk_X11_522 (by decide) rfl rfl hl (by decide) rfl (Nat.le_of_ble_eq_true rfl) (rest := [.int (f_X11_yOf x2)]) rfl dX11_overtakes_20 (fun H locs Z => ?_)
  refine lv_isub hx hb dX11_overtakes_23 ?_
  obtain ⟨v10, ev10, h⟩ := lb h
  refine tn_i ev10 ?_
  refine lv_istore (lv' := [(6, .int v10), (5, .int v9), (0, .ref (ad 0)), (1, .int x1), (2, .int x2), (3, .int x3), (4, .int x4)]) hx hb dX11_overtakes_24 hl (by decide) rfl (fun ls hl => ?_)
  refine lv_aload_n hx hb dX11_overtakes_26 rfl (lv_at hl 2 rfl) ?_
  refine lv_iload hx hb dX11_overtakes_27 (lv_at hl 6 rfl) ?_
  refine g_callVi eM_ok C Z (k_X11_xOf x4 σ) lk_X11_519 (by decide) rfl rfl hl (by decide) rfl (Nat.le_of_ble_eq_true rfl) (rest := []) rfl dX11_overtakes_29 (fun H locs Z => ?_)
  refine lv_aload_n hx hb dX11_overtakes_32 rfl (lv_at hl 2 rfl) ?_
  refine lv_iload_n hx hb dX11_overtakes_33 rfl (lv_at hl 5 rfl) ?_
  refine g_callVi eM_ok C Z (k_X11_xOf x3 σ) lk_X11_519 (by decide) rfl rfl hl (by decide) rfl (Nat.le_of_ble_eq_true rfl) (rest := [.int (f_X11_xOf x4)]) rfl dX11_overtakes_34 (fun H locs Z => ?_)
  refine lv_isub hx hb dX11_overtakes_37 ?_
  obtain ⟨v11, ev11, h⟩ := lb h
  refine tn_i ev11 ?_
  refine lv_istore (lv' := [(7, .int v11), (6, .int v10), (5, .int v9), (0, .ref (ad 0)), (1, .int x1), (2, .int x2), (3, .int x3), (4, .int x4)]) hx hb dX11_overtakes_38 hl (by decide) rfl (fun ls hl => ?_)
  refine lv_aload_n hx hb dX11_overtakes_40 rfl (lv_at hl 3 rfl) ?_
  refine lv_iload hx hb dX11_overtakes_41 (lv_at hl 7 rfl) ?_
  refine g_callVi eM_ok C Z (k_X11_yOf x4 σ) lk_X11_522 (by decide) rfl rfl hl (by decide) rfl (Nat.le_of_ble_eq_true rfl) (rest := []) rfl dX11_overtakes_43 (fun H locs Z => ?_)
  refine lv_aload_n hx hb dX11_overtakes_46 rfl (lv_at hl 3 rfl) ?_
  refine lv_iload_n hx hb dX11_overtakes_47 rfl (lv_at hl 6 rfl) ?_
  refine g_callVi eM_ok C Z (k_X11_yOf x3 σ) lk_X11_522 (by decide) rfl rfl hl (by decide) rfl (Nat.le_of_ble_eq_true rfl) (rest := [.int (f_X11_yOf x4)]) rfl dX11_overtakes_48 (fun H locs Z => ?_)
  refine lv_isub hx hb dX11_overtakes_51 ?_
  obtain ⟨v12, ev12, h⟩ := lb h
  refine tn_i ev12 ?_
  refine lv_istore (lv' := [(8, .int v12), (7, .int v11), (6, .int v10), (5, .int v9), (0, .ref (ad 0)), (1, .int x1), (2, .int x2), (3, .int x3), (4, .int x4)]) hx hb dX11_overtakes_52 hl (by decide) rfl (fun ls hl => ?_)
  refine lv_iload hx hb dX11_overtakes_54 (lv_at hl 3 rfl) ?_
  refine lv_iload hx hb dX11_overtakes_56 (lv_at hl 1 rfl) ?_
  refine lv_imul hx hb dX11_overtakes_58 ?_
  refine lv_iload hx hb dX11_overtakes_59 (lv_at hl 2 rfl) ?_
  refine lv_iload hx hb dX11_overtakes_61 (lv_at hl 0 rfl) ?_
  refine lv_imul hx hb dX11_overtakes_63 ?_
  refine lv_iadd hx hb dX11_overtakes_64 ?_
  refine lv_if_le (tgt := 104) hx hb dX11_overtakes_65 (by decide) (fun c65 => ?_) (fun c65 => ?_)
  · have h := ip h c65
    exact w_X11_overtakes_104 C hR Z (lv_sub hl [] rfl) h
  · have h := im h c65
    refine lv_aload_n hx hb dX11_overtakes_68 rfl (lv_at hl 4 rfl) ?_
    refine lv_iload_n hx hb dX11_overtakes_69 rfl (lv_at hl 5 rfl) ?_
    refine g_callVi eM_ok C Z (k_X11_xOf x1 σ) lk_X11_519 (by decide) rfl rfl hl (by decide) rfl (Nat.le_of_ble_eq_true rfl) (rest := []) rfl dX11_overtakes_70 (fun H locs Z => ?_)
    refine lv_aload_n hx hb dX11_overtakes_73 rfl (lv_at hl 4 rfl) ?_
    refine lv_iload_n hx hb dX11_overtakes_74 rfl (lv_at hl 7 rfl) ?_
    refine g_callVi eM_ok C Z (k_X11_xOf x3 σ) lk_X11_519 (by decide) rfl rfl hl (by decide) rfl (Nat.le_of_ble_eq_true rfl) (rest := [.int (f_X11_xOf x1)]) rfl dX11_overtakes_75 (fun H locs Z => ?_)
    refine lv_isub hx hb dX11_overtakes_78 ?_
    refine lv_iload hx hb dX11_overtakes_79 (lv_at hl 1 rfl) ?_
    refine lv_imul hx hb dX11_overtakes_81 ?_
    refine lv_aload_n hx hb dX11_overtakes_82 rfl (lv_at hl 4 rfl) ?_
    refine lv_iload_n hx hb dX11_overtakes_83 rfl (lv_at hl 5 rfl) ?_
    refine g_callVi eM_ok C Z (k_X11_yOf x1 σ) lk_X11_522 (by decide) rfl rfl hl (by decide) rfl (Nat.le_of_ble_eq_true rfl) (rest := [.int (((f_X11_xOf x1) - (f_X11_xOf x3)) * v11)]) rfl dX11_overtakes_84 (fun H locs Z => ?_)
    refine lv_aload_n hx hb dX11_overtakes_87 rfl (lv_at hl 4 rfl) ?_
    refine lv_iload_n hx hb dX11_overtakes_88 rfl (lv_at hl 7 rfl) ?_
    refine g_callVi eM_ok C Z (k_X11_yOf x3 σ) lk_X11_522 (by decide) rfl rfl hl (by decide) rfl (Nat.le_of_ble_eq_true rfl) (rest := [.int (f_X11_yOf x1), .int (((f_X11_xOf x1) - (f_X11_xOf x3)) * v11)]) rfl dX11_overtakes_89 (fun H locs Z => ?_)
    refine lv_isub hx hb dX11_overtakes_92 ?_
    refine lv_iload hx hb dX11_overtakes_93 (lv_at hl 0 rfl) ?_
    refine lv_imul hx hb dX11_overtakes_95 ?_
    refine lv_iadd hx hb dX11_overtakes_96 ?_
    refine lv_if_ge (tgt := 104) hx hb dX11_overtakes_97 (by decide) (fun c97 => ?_) (fun c97 => ?_)
    · have h := ip h c97
      exact w_X11_overtakes_104 C hR Z (lv_sub hl [] rfl) h
    · have h := im h c97
      refine lv_iconst (v := 1) hx hb dX11_overtakes_100 (by decide) ?_
      refine lv_goto (tgt := 105) hx hb dX11_overtakes_101 (by decide) ?_
      subst h
      exact hR _ _ _ _ _ Z dX11_overtakes_105 rfl
theorem k_X11_overtakes {l : Launch} {kc : Nat → ClassId} {ad : Nat → Nat} {D : va_G} (x1 : Int32) (x2 : Int32) (x3 : Int32) (x4 : Int32) (σ : St) : KC eM tM kc ad D l yX11_overtakes (.code yX11_overtakes cX11_overtakes 9 (some .boolean)) r_X11_overtakes [.ref (ad 0), .int x1, .int x2, .int x3, .int x4] (some (.int (f_X11_overtakes x1 x2 x3 x4))) σ σ := by
  refine g_enter (by decide) (Nat.le_of_ble_eq_true rfl) ?_
  intro p e s m args below meth c A hA C hr hlocks Z ls hl
  have hl : lv_has ls 9 [(0, .ref (ad 0)), (1, .int x1), (2, .int x2), (3, .int x3), (4, .int x4)] := hl
  exact w_X11_overtakes_0 C (g_RTi C.1.1 C.1.2.1 hr hlocks hA)  Z hl rfl
def r_X11_isRight : Room := { frames := 1, cells := 0, slots := 0, locals := 21 }
set_option maxRecDepth 20000 in
theorem w_X11_isRight_0 {p : Program} {l : Launch} {e : Env} {s : State} {m : MethodId} {args : Array Value} {below : List Frame} {meth : Method} {c : Code} {Q : State → Prop} {D : va_G} {kc : Nat → ClassId} {ad : Nat → Nat} {A : Nat → Prop} (C : Cx eM p s m args c cX11_isRight 6 RX11 D kc A) {R : Int32} {x1 : Int32} {x2 : Int32} {x3 : Int32} {σ : St} (hR : RTi 0 0 p l e r_X11_isRight s m args below meth c cX11_isRight tM kc ad D A Q .boolean R σ) {H : Heap} {locs : List Loc} {ls : Array Slot} (Z : Dy tM kc ad D A s.heap σ H locs) (hl : lv_has ls 6 [(0, .ref (ad 0)), (1, .int x1), (2, .int x2), (3, .int x3)]) (h : f_X11_isRight x1 x2 x3 = R) : W p l e r_X11_isRight s m args below meth c H locs 0 0 Q (F0 m 0 ls []) := by
  have hx := C.1.1
  have hb := C.1.2.1
  unfold f_X11_isRight at h
  refine lv_aload_n hx hb dX11_isRight_0 rfl (lv_at hl 0 rfl) ?_
  refine lv_iload_n hx hb dX11_isRight_1 rfl (lv_at hl 2 rfl) ?_
  refine g_callVi eM_ok C Z (k_X11_xOf x2 σ) lk_X11_519 (by decide) rfl rfl hl (by decide) rfl (Nat.le_of_ble_eq_true rfl) (rest := []) rfl dX11_isRight_2 (fun H locs Z => ?_)
  refine lv_aload_n hx hb dX11_isRight_5 rfl (lv_at hl 0 rfl) ?_
  refine lv_iload_n hx hb dX11_isRight_6 rfl (lv_at hl 1 rfl) ?_
  refine g_callVi eM_ok C Z (k_X11_xOf x1 σ) lk_X11_519 (by decide) rfl rfl hl (by decide) rfl (Nat.le_of_ble_eq_true rfl) (rest := [.int (f_X11_xOf x2)]) rfl dX11_isRight_7 (fun H locs Z => ?_)
  refine lv_isub hx hb dX11_isRight_10 ?_
  obtain ⟨v5, ev5, h⟩ := lb h
  refine tn_i ev5 ?_
  refine lv_istore (lv' := [(4, .int v5), (0, .ref (ad 0)), (1, .int x1), (2, .int x2), (3, .int x3)]) hx hb dX11_isRight_11 hl (by decide) rfl (fun ls hl => ?_)
  refine lv_aload_n hx hb dX11_isRight_13 rfl (lv_at hl 1 rfl) ?_
  refine lv_iload_n hx hb dX11_isRight_14 rfl (lv_at hl 3 rfl) ?_
  refine g_callVi eM_ok C Z (k_X11_yOf x2 σ) lk_X11_522 (by decide) rfl rfl hl (by decide) rfl (Nat.le_of_ble_eq_true rfl) (rest := []) rfl dX11_isRight_15 (fun H locs Z => ?_)
  refine lv_aload_n hx hb dX11_isRight_18 rfl (lv_at hl 1 rfl) ?_
  refine lv_iload_n hx hb dX11_isRight_19 rfl (lv_at hl 2 rfl) ?_
  refine g_callVi eM_ok C Z (k_X11_yOf x1 σ) lk_X11_522 (by decide) rfl rfl hl (by decide) rfl (Nat.le_of_ble_eq_true rfl) (rest := [.int (f_X11_yOf x2)]) rfl dX11_isRight_20 (fun H locs Z => ?_)
  refine lv_isub hx hb dX11_isRight_23 ?_
  obtain ⟨v6, ev6, h⟩ := lb h
  refine tn_i ev6 ?_
  refine lv_istore (lv' := [(5, .int v6), (4, .int v5), (0, .ref (ad 0)), (1, .int x1), (2, .int x2), (3, .int x3)]) hx hb dX11_isRight_24 hl (by decide) rfl (fun ls hl => ?_)
  refine lv_iload hx hb dX11_isRight_26 (lv_at hl 1 rfl) ?_
  refine lv_aload_n hx hb dX11_isRight_28 rfl (lv_at hl 2 rfl) ?_
  refine lv_iload_n hx hb dX11_isRight_29 rfl (lv_at hl 5 rfl) ?_
  refine g_callVi eM_ok C Z (k_X11_yOf x3 σ) lk_X11_522 (by decide) rfl rfl hl (by decide) rfl (Nat.le_of_ble_eq_true rfl) (rest := [.int v5]) rfl dX11_isRight_30 (fun H locs Z => ?_)
  refine lv_aload_n hx hb dX11_isRight_33 rfl (lv_at hl 2 rfl) ?_
  refine lv_iload_n hx hb dX11_isRight_34 rfl (lv_at hl 3 rfl) ?_
  refine g_callVi eM_ok C Z (k_X11_yOf x1 σ) lk_X11_522 (by decide) rfl rfl hl (by decide) rfl (Nat.le_of_ble_eq_true rfl) (rest := [.int (f_X11_yOf x3), .int v5]) rfl dX11_isRight_35 (fun H locs Z => ?_)
  refine lv_isub hx hb dX11_isRight_38 ?_
  refine lv_imul hx hb dX11_isRight_39 ?_
  refine lv_iload hx hb dX11_isRight_40 (lv_at hl 0 rfl) ?_
  refine lv_aload_n hx hb dX11_isRight_42 rfl (lv_at hl 2 rfl) ?_
  refine lv_iload_n hx hb dX11_isRight_43 rfl (lv_at hl 5 rfl) ?_
  refine g_callVi eM_ok C Z (k_X11_xOf x3 σ) lk_X11_519 (by decide) rfl rfl hl (by decide) rfl (Nat.le_of_ble_eq_true rfl) (rest := [.int v6, .int (v5 * ((f_X11_yOf x3) - (f_X11_yOf x1)))]) rfl dX11_isRight_44 (fun H locs Z => ?_)
  refine lv_aload_n hx hb dX11_isRight_47 rfl (lv_at hl 2 rfl) ?_
  refine lv_iload_n hx hb dX11_isRight_48 rfl (lv_at hl 3 rfl) ?_
  refine g_callVi eM_ok C Z (k_X11_xOf x1 σ) lk_X11_519 (by decide) rfl rfl hl (by decide) rfl (Nat.le_of_ble_eq_true rfl) (rest := [.int (f_X11_xOf x3), .int v6, .int (v5 * ((f_X11_yOf x3) - (f_X11_yOf x1)))]) rfl dX11_isRight_49 (fun H locs Z => ?_)
  refine lv_isub hx hb dX11_isRight_52 ?_
  refine lv_imul hx hb dX11_isRight_53 ?_
  refine lv_isub hx hb dX11_isRight_54 ?_
  obtain ⟨v7, ev7, h⟩ := lb h
  have hj : W p l e r_X11_isRight s m args below meth c H locs 0 0 Q (F0 m 63 ls [.int v7]) := by
    subst h
    exact hR _ _ _ _ _ Z dX11_isRight_63 (nar_b _)
  refine lv_if_le (tgt := 62) hx hb dX11_isRight_55 (by decide) (fun c55 => ?_) (fun c55 => ?_)
  · rw [if_pos c55] at ev7
    refine lv_iconst (v := 0) hx hb dX11_isRight_62 (by decide) ?_
    exact tn_i ev7 hj
  · rw [if_neg c55] at ev7
    refine lv_iconst (v := 1) hx hb dX11_isRight_58 (by decide) ?_
    refine lv_goto (tgt := 63) hx hb dX11_isRight_59 (by decide) ?_
    exact tn_i ev7 hj
theorem k_X11_isRight {l : Launch} {kc : Nat → ClassId} {ad : Nat → Nat} {D : va_G} (x1 : Int32) (x2 : Int32) (x3 : Int32) (σ : St) : KC eM tM kc ad D l yX11_isRight (.code yX11_isRight cX11_isRight 6 (some .boolean)) r_X11_isRight [.ref (ad 0), .int x1, .int x2, .int x3] (some (.int (f_X11_isRight x1 x2 x3))) σ σ := by
  refine g_enter (by decide) (Nat.le_of_ble_eq_true rfl) ?_
  intro p e s m args below meth c A hA C hr hlocks Z ls hl
  have hl : lv_has ls 6 [(0, .ref (ad 0)), (1, .int x1), (2, .int x2), (3, .int x3)] := hl
  exact w_X11_isRight_0 C (g_RTi C.1.1 C.1.2.1 hr hlocks hA)  Z hl rfl
