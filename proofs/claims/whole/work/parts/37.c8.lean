def r_X10_hook : Room := { frames := 4, cells := 0, slots := 0, locals := 98 }
set_option maxRecDepth 20000 in
theorem w_X10_hook_0 {p : Program} {l : Launch} {e : Env} {s : State} {m : MethodId} {args : Array Value} {below : List Frame} {meth : Method} {c : Code} {Q : State → Prop} {D : va_G} {kc : Nat → ClassId} {ad : Nat → Nat} {A : Nat → Prop} {adK adV : Nat → Nat} (C : Cx (eC adK adV) p s m args c cX10_hook 8 RX10 D kc A) {R : Int32 × St} {x1 : Int32} {x2 : Int32} {x3 : Int32} {x4 : Int32} {x5 : Int32} {x6 : Int32} {σ : St} (hR : RTi 0 0 p l e r_X10_hook s m args below meth c cX10_hook tC kc ad D A Q .int R.1 R.2) {H : Heap} {locs : List Loc} {ls : Array Slot} (Z : Dy tC kc ad D A s.heap σ H locs) (hl : lv_has ls 8 [(0, .ref (ad 0)), (1, .int x1), (2, .int x2), (3, .int x3), (4, .int x4), (5, .int x5), (6, .int x6)]) (h : f_X10_hook x1 x2 x3 x4 x5 x6 σ = some R) : W p l e r_X10_hook s m args below meth c H locs 0 0 Q (F0 m 0 ls []) := by
  have hx := C.1.1
  have hb := C.1.2.1
  unfold f_X10_hook at h
  refine lv_iload_n hx hb dX10_hook_0 rfl (lv_at hl 1 rfl) ?_
  refine lv_iconst (v := 1) hx hb dX10_hook_1 (by decide) ?_
  refine lv_iconst (v := 5) hx hb dX10_hook_2 (by decide) ?_
  refine g_callSi (eC_ok adK adV) C Z (k_X10_lies x1 1 5 σ) lk_X10_99 hl (by decide) rfl (Nat.le_of_ble_eq_true rfl) (rest := []) rfl dX10_hook_3 (fun H locs Z => ?_)
  refine lv_if_eq (tgt := 29) hx hb dX10_hook_6 (by decide) (fun c6 => ?_) (fun c6 => ?_)
  · have h := ip h c6
    refine lv_iconst (v := (-1)) hx hb dX10_hook_29 (by decide) ?_
    obtain rfl := Option.some.inj h
    exact hR _ _ _ _ _ Z dX10_hook_30 rfl
  · have h := im h c6
    refine lv_iload_n hx hb dX10_hook_9 rfl (lv_at hl 2 rfl) ?_
    refine lv_iconst (v := 1) hx hb dX10_hook_10 (by decide) ?_
    refine lv_iconst (v := 5) hx hb dX10_hook_11 (by decide) ?_
    refine g_callSi (eC_ok adK adV) C Z (k_X10_lies x2 1 5 σ) lk_X10_99 hl (by decide) rfl (Nat.le_of_ble_eq_true rfl) (rest := []) rfl dX10_hook_12 (fun H locs Z => ?_)
    refine lv_if_eq (tgt := 29) hx hb dX10_hook_15 (by decide) (fun c15 => ?_) (fun c15 => ?_)
    · have h := ip h c15
      refine lv_iconst (v := (-1)) hx hb dX10_hook_29 (by decide) ?_
      obtain rfl := Option.some.inj h
      exact hR _ _ _ _ _ Z dX10_hook_30 rfl
    · have h := im h c15
      refine lv_iload hx hb dX10_hook_18 (lv_at hl 6 rfl) ?_
      refine lv_iconst (v := 0) hx hb dX10_hook_20 (by decide) ?_
      refine lv_bipush (v := 8) hx hb dX10_hook_21 (by decide) ?_
      refine g_callSi (eC_ok adK adV) C Z (k_X10_lies x6 0 8 σ) lk_X10_99 hl (by decide) rfl (Nat.le_of_ble_eq_true rfl) (rest := []) rfl dX10_hook_23 (fun H locs Z => ?_)
      refine lv_if_ne (tgt := 31) hx hb dX10_hook_26 (by decide) (fun c26 => ?_) (fun c26 => ?_)
      · have h := im h c26
        refine lv_iload_n hx hb dX10_hook_31 rfl (lv_at hl 1 rfl) ?_
        refine lv_iload_n hx hb dX10_hook_32 rfl (lv_at hl 2 rfl) ?_
        refine lv_imul hx hb dX10_hook_33 ?_
        refine lv_iconst (v := 1) hx hb dX10_hook_34 (by decide) ?_
        refine lv_isub hx hb dX10_hook_35 ?_
        obtain ⟨v7, ev7, h⟩ := lb h
        refine tn_i ev7 ?_
        refine lv_istore (lv' := [(7, .int v7), (0, .ref (ad 0)), (1, .int x1), (2, .int x2), (3, .int x3), (4, .int x4), (5, .int x5), (6, .int x6)]) hx hb dX10_hook_36 hl (by decide) rfl (fun ls hl => ?_)
        refine lv_iload_n hx hb dX10_hook_38 rfl (lv_at hl 4 rfl) ?_
        refine lv_iconst (v := 0) hx hb dX10_hook_39 (by decide) ?_
        refine lv_iload hx hb dX10_hook_40 (lv_at hl 0 rfl) ?_
        refine g_callSi (eC_ok adK adV) C Z (k_X10_lies x3 0 v7 σ) lk_X10_99 hl (by decide) rfl (Nat.le_of_ble_eq_true rfl) (rest := []) rfl dX10_hook_42 (fun H locs Z => ?_)
        refine lv_if_eq (tgt := 77) hx hb dX10_hook_45 (by decide) (fun c45 => ?_) (fun c45 => ?_)
        · have h := ip h c45
          refine lv_iconst (v := (-1)) hx hb dX10_hook_77 (by decide) ?_
          obtain rfl := Option.some.inj h
          exact hR _ _ _ _ _ Z dX10_hook_78 rfl
        · have h := im h c45
          refine lv_iload hx hb dX10_hook_48 (lv_at hl 5 rfl) ?_
          refine lv_iconst (v := 0) hx hb dX10_hook_50 (by decide) ?_
          refine lv_iload hx hb dX10_hook_51 (lv_at hl 0 rfl) ?_
          refine g_callSi (eC_ok adK adV) C Z (k_X10_lies x4 0 v7 σ) lk_X10_99 hl (by decide) rfl (Nat.le_of_ble_eq_true rfl) (rest := []) rfl dX10_hook_53 (fun H locs Z => ?_)
          refine lv_if_eq (tgt := 77) hx hb dX10_hook_56 (by decide) (fun c56 => ?_) (fun c56 => ?_)
          · have h := ip h c56
            refine lv_iconst (v := (-1)) hx hb dX10_hook_77 (by decide) ?_
            obtain rfl := Option.some.inj h
            exact hR _ _ _ _ _ Z dX10_hook_78 rfl
          · have h := im h c56
            refine lv_iload hx hb dX10_hook_59 (lv_at hl 6 rfl) ?_
            refine lv_iconst (v := (-1)) hx hb dX10_hook_61 (by decide) ?_
            refine lv_iload hx hb dX10_hook_62 (lv_at hl 0 rfl) ?_
            refine g_callSi (eC_ok adK adV) C Z (k_X10_lies x5 (-1) v7 σ) lk_X10_99 hl (by decide) rfl (Nat.le_of_ble_eq_true rfl) (rest := []) rfl dX10_hook_64 (fun H locs Z => ?_)
            refine lv_if_eq (tgt := 77) hx hb dX10_hook_67 (by decide) (fun c67 => ?_) (fun c67 => ?_)
            · have h := ip h c67
              refine lv_iconst (v := (-1)) hx hb dX10_hook_77 (by decide) ?_
              obtain rfl := Option.some.inj h
              exact hR _ _ _ _ _ Z dX10_hook_78 rfl
            · have h := im h c67
              refine lv_iload hx hb dX10_hook_70 (lv_at hl 5 rfl) ?_
              refine lv_iload hx hb dX10_hook_72 (lv_at hl 6 rfl) ?_
              refine lv_icmp_ne (tgt := 79) hx hb dX10_hook_74 (by decide) (fun c74 => ?_) (fun c74 => ?_)
              · have h := im h c74
                refine lv_aload_n hx hb dX10_hook_79 rfl (lv_at hl 1 rfl) ?_
                refine rg_X10_67 C Z dX10_hook_80 ?_
                refine lv_iload_n hx hb dX10_hook_83 rfl (lv_at hl 2 rfl) ?_
                refine lv_iload_n hx hb dX10_hook_84 rfl (lv_at hl 3 rfl) ?_
                refine lv_iload hx hb dX10_hook_85 (lv_at hl 6 rfl) ?_
                refine lv_iconst (v := (-1)) hx hb dX10_hook_87 (by decide) ?_
                obtain ⟨v8, ev8, h⟩ := lb h
                have hj : W p l e r_X10_hook s m args below meth c H locs 0 0 Q (F0 m 96 ls [.int v8, .int x2, .int x1, .ref (ad 6)]) := by
                  obtain ⟨σ9, hσ9, h⟩ := ob h
                  refine g_callVv (eC_ok adK adV) C Z (k_X1_lay hσ9) lk_X10_264 (by decide) rfl rfl hl (by decide) rfl (Nat.le_of_ble_eq_true rfl) (rest := []) rfl dX10_hook_96 (fun H locs Z => ?_)
                  refine lv_aload_n hx hb dX10_hook_99 rfl (lv_at hl 1 rfl) ?_
                  refine rg_X10_67 C Z dX10_hook_100 ?_
                  refine lv_iload_n hx hb dX10_hook_103 rfl (lv_at hl 4 rfl) ?_
                  refine lv_iload hx hb dX10_hook_104 (lv_at hl 5 rfl) ?_
                  refine lv_iload hx hb dX10_hook_106 (lv_at hl 6 rfl) ?_
                  refine lv_iload hx hb dX10_hook_108 (lv_at hl 7 rfl) ?_
                  obtain ⟨u10, hu10, h⟩ := ob h
                  refine g_callVi (eC_ok adK adV) C Z (k_X1_play hu10) lk_X10_268 (by decide) rfl rfl hl (by decide) rfl (Nat.le_of_ble_eq_true rfl) (rest := []) rfl dX10_hook_110 (fun H locs Z => ?_)
                  obtain rfl := Option.some.inj h
                  exact hR _ _ _ _ _ Z dX10_hook_113 rfl
                refine lv_icmp_eq (tgt := 95) hx hb dX10_hook_88 (by decide) (fun c88 => ?_) (fun c88 => ?_)
                · rw [if_pos c88] at ev8
                  refine lv_iconst (v := 0) hx hb dX10_hook_95 (by decide) ?_
                  exact tn_i ev8 hj
                · rw [if_neg c88] at ev8
                  refine lv_iconst (v := 1) hx hb dX10_hook_91 (by decide) ?_
                  refine lv_goto (tgt := 96) hx hb dX10_hook_92 (by decide) ?_
                  exact tn_i ev8 hj
              · have h := ip h c74
                refine lv_iconst (v := (-1)) hx hb dX10_hook_77 (by decide) ?_
                obtain rfl := Option.some.inj h
                exact hR _ _ _ _ _ Z dX10_hook_78 rfl
      · have h := ip h c26
        refine lv_iconst (v := (-1)) hx hb dX10_hook_29 (by decide) ?_
        obtain rfl := Option.some.inj h
        exact hR _ _ _ _ _ Z dX10_hook_30 rfl
theorem k_X10_hook {l : Launch} {kc : Nat → ClassId} {ad : Nat → Nat} {D : va_G} {adK adV : Nat → Nat} {x1 : Int32} {x2 : Int32} {x3 : Int32} {x4 : Int32} {x5 : Int32} {x6 : Int32} {σ : St} {R : Int32 × St} (h : f_X10_hook x1 x2 x3 x4 x5 x6 σ = some R) : KC (eC adK adV) tC kc ad D l yX10_hook (.code yX10_hook cX10_hook 8 (some .int)) r_X10_hook [.ref (ad 0), .int x1, .int x2, .int x3, .int x4, .int x5, .int x6] (some (.int R.1)) σ R.2 := by
  refine g_enter (by decide) (Nat.le_of_ble_eq_true rfl) ?_
  intro p e s m args below meth c A hA C hr hlocks Z ls hl
  have hl : lv_has ls 8 [(0, .ref (ad 0)), (1, .int x1), (2, .int x2), (3, .int x3), (4, .int x4), (5, .int x5), (6, .int x6)] := hl
  exact w_X10_hook_0 C (g_RTi C.1.1 C.1.2.1 hr hlocks hA)  Z hl h
def r_X10_hooks : Room := { frames := 0, cells := 0, slots := 0, locals := 0 }
set_option maxRecDepth 20000 in
theorem w_X10_hooks_0 {p : Program} {l : Launch} {e : Env} {s : State} {m : MethodId} {args : Array Value} {below : List Frame} {meth : Method} {c : Code} {Q : State → Prop} {D : va_G} {kc : Nat → ClassId} {ad : Nat → Nat} {A : Nat → Prop} {adK adV : Nat → Nat} (C : Cx (eC adK adV) p s m args c cX10_hooks 1 RX10 D kc A) {R : Int32} {σ : St} (hR : RTi 0 0 p l e r_X10_hooks s m args below meth c cX10_hooks tC kc ad D A Q .int R σ) {H : Heap} {locs : List Loc} {ls : Array Slot} (Z : Dy tC kc ad D A s.heap σ H locs) (hl : lv_has ls 1 [(0, .ref (ad 0))]) (h : f_X10_hooks σ = R) : W p l e r_X10_hooks s m args below meth c H locs 0 0 Q (F0 m 0 ls []) := by
  have hx := C.1.1
  have hb := C.1.2.1
  unfold f_X10_hooks at h
  refine lv_aload_n hx hb dX10_hooks_0 rfl (lv_at hl 0 rfl) ?_
  refine rg_X10_67 C Z dX10_hooks_1 ?_
  refine rg_X10_271 C Z dX10_hooks_4 ?_
  subst h
  exact hR _ _ _ _ _ Z dX10_hooks_7 rfl
theorem k_X10_hooks {l : Launch} {kc : Nat → ClassId} {ad : Nat → Nat} {D : va_G} {adK adV : Nat → Nat} (σ : St) : KC (eC adK adV) tC kc ad D l yX10_hooks (.code yX10_hooks cX10_hooks 1 (some .int)) r_X10_hooks [.ref (ad 0)] (some (.int (f_X10_hooks σ))) σ σ := by
  refine g_enter (by decide) (Nat.le_of_ble_eq_true rfl) ?_
  intro p e s m args below meth c A hA C hr hlocks Z ls hl
  have hl : lv_has ls 1 [(0, .ref (ad 0))] := hl
  exact w_X10_hooks_0 C (g_RTi C.1.1 C.1.2.1 hr hlocks hA)  Z hl rfl
def r_X10_overtakes : Room := { frames := 1, cells := 0, slots := 0, locals := 20 }
set_option maxRecDepth 20000 in
theorem w_X10_overtakes_98 {p : Program} {l : Launch} {e : Env} {s : State} {m : MethodId} {args : Array Value} {below : List Frame} {meth : Method} {c : Code} {Q : State → Prop} {D : va_G} {kc : Nat → ClassId} {ad : Nat → Nat} {A : Nat → Prop} {adK adV : Nat → Nat} (C : Cx (eC adK adV) p s m args c cX10_overtakes 10 RX10 D kc A) {R : Int32} {σ : St} (hR : RTi 0 0 p l e r_X10_overtakes s m args below meth c cX10_overtakes tC kc ad D A Q .boolean R σ) {H : Heap} {locs : List Loc} {ls : Array Slot} (Z : Dy tC kc ad D A s.heap σ H locs) (hl : lv_has ls 10 []) (h : f_X10_overtakes_98 = R) : W p l e r_X10_overtakes s m args below meth c H locs 0 0 Q (F0 m 98 ls []) := by
  have hx := C.1.1
  have hb := C.1.2.1
  unfold f_X10_overtakes_98 at h
  refine lv_iconst (v := 0) hx hb dX10_overtakes_98 (by decide) ?_
  subst h
  exact hR _ _ _ _ _ Z dX10_overtakes_99 rfl
set_option maxRecDepth 20000 in
theorem w_X10_overtakes_0 {p : Program} {l : Launch} {e : Env} {s : State} {m : MethodId} {args : Array Value} {below : List Frame} {meth : Method} {c : Code} {Q : State → Prop} {D : va_G} {kc : Nat → ClassId} {ad : Nat → Nat} {A : Nat → Prop} {adK adV : Nat → Nat} (C : Cx (eC adK adV) p s m args c cX10_overtakes 10 RX10 D kc A) {R : Int32} {x0 : Int32} {x1 : Int32} {x2 : Int32} {x3 : Int32} {σ : St} (hR : RTi 0 0 p l e r_X10_overtakes s m args below meth c cX10_overtakes tC kc ad D A Q .boolean R σ) {H : Heap} {locs : List Loc} {ls : Array Slot} (Z : Dy tC kc ad D A s.heap σ H locs) (hl : lv_has ls 10 [(0, .int x0), (1, .int x1), (2, .int x2), (3, .int x3)]) (h : f_X10_overtakes x0 x1 x2 x3 = R) : W p l e r_X10_overtakes s m args below meth c H locs 0 0 Q (F0 m 0 ls []) := by
  have hx := C.1.1
  have hb := C.1.2.1
  unfold f_X10_overtakes at h
  refine lv_iload_n hx hb dX10_overtakes_0 rfl (lv_at hl 1 rfl) ?_
  refine g_callSi (eC_ok adK adV) C Z (k_X6_xOf x1 σ) lk_X10_191 hl (by decide) rfl (Nat.le_of_ble_eq_true rfl) (rest := []) rfl dX10_overtakes_1 (fun H locs Z => ?_)
  refine lv_iload_n hx hb dX10_overtakes_4 rfl (lv_at hl 0 rfl) ?_
  refine g_callSi (eC_ok adK adV) C Z (k_X6_xOf x0 σ) lk_X10_191 hl (by decide) rfl (Nat.le_of_ble_eq_true rfl) (rest := [.int (f_X6_xOf x1)]) rfl dX10_overtakes_5 (fun H locs Z => ?_)
  refine lv_isub hx hb dX10_overtakes_8 ?_
  obtain ⟨v13, ev13, h⟩ := lb h
  refine tn_i ev13 ?_
  refine lv_istore (lv' := [(4, .int v13), (0, .int x0), (1, .int x1), (2, .int x2), (3, .int x3)]) hx hb dX10_overtakes_9 hl (by decide) rfl (fun ls hl => ?_)
  refine lv_iload_n hx hb dX10_overtakes_11 rfl (lv_at hl 2 rfl) ?_
  refine g_callSi (eC_ok adK adV) C Z (k_X6_yOf x1 σ) lk_X10_194 hl (by decide) rfl (Nat.le_of_ble_eq_true rfl) (rest := []) rfl dX10_overtakes_12 (fun H locs Z => ?_)
  refine lv_iload_n hx hb dX10_overtakes_15 rfl (lv_at hl 1 rfl) ?_
  refine g_callSi (eC_ok adK adV) C Z (k_X6_yOf x0 σ) lk_X10_194 hl (by decide) rfl (Nat.le_of_ble_eq_true rfl) (rest := [.int (f_X6_yOf x1)]) rfl dX10_overtakes_16 (fun H locs Z => ?_)
  refine lv_isub hx hb dX10_overtakes_19 ?_
  obtain ⟨v14, ev14, h⟩ := lb h
  refine tn_i ev14 ?_
  refine lv_istore (lv' := [(5, .int v14), (4, .int v13), (0, .int x0), (1, .int x1), (2, .int x2), (3, .int x3)]) hx hb dX10_overtakes_20 hl (by decide) rfl (fun ls hl => ?_)
  refine lv_iload_n hx hb dX10_overtakes_22 rfl (lv_at hl 5 rfl) ?_
  refine g_callSi (eC_ok adK adV) C Z (k_X6_xOf x3 σ) lk_X10_191 hl (by decide) rfl (Nat.le_of_ble_eq_true rfl) (rest := []) rfl dX10_overtakes_23 (fun H locs Z => ?_)
  refine lv_iload_n hx hb dX10_overtakes_26 rfl (lv_at hl 4 rfl) ?_
  refine g_callSi (eC_ok adK adV) C Z (k_X6_xOf x2 σ) lk_X10_191 hl (by decide) rfl (Nat.le_of_ble_eq_true rfl) (rest := [.int (f_X6_xOf x3)]) rfl dX10_overtakes_27 (fun H locs Z => ?_)
  refine lv_isub hx hb dX10_overtakes_30 ?_
  obtain ⟨v15, ev15, h⟩ := lb h
  refine tn_i ev15 ?_
  refine lv_istore (lv' := [(6, .int v15), (5, .int v14), (4, .int v13), (0, .int x0), (1, .int x1), (2, .int x2), (3, .int x3)]) hx hb dX10_overtakes_31 hl (by decide) rfl (fun ls hl => ?_)
  refine lv_iload_n hx hb dX10_overtakes_33 rfl (lv_at hl 6 rfl) ?_
  refine g_callSi (eC_ok adK adV) C Z (k_X6_yOf x3 σ) lk_X10_194 hl (by decide) rfl (Nat.le_of_ble_eq_true rfl) (rest := []) rfl dX10_overtakes_34 (fun H locs Z => ?_)
  refine lv_iload_n hx hb dX10_overtakes_37 rfl (lv_at hl 5 rfl) ?_
  refine g_callSi (eC_ok adK adV) C Z (k_X6_yOf x2 σ) lk_X10_194 hl (by decide) rfl (Nat.le_of_ble_eq_true rfl) (rest := [.int (f_X6_yOf x3)]) rfl dX10_overtakes_38 (fun H locs Z => ?_)
  refine lv_isub hx hb dX10_overtakes_41 ?_
  obtain ⟨v16, ev16, h⟩ := lb h
  refine tn_i ev16 ?_
  refine lv_istore (lv' := [(7, .int v16), (6, .int v15), (5, .int v14), (4, .int v13), (0, .int x0), (1, .int x1), (2, .int x2), (3, .int x3)]) hx hb dX10_overtakes_42 hl (by decide) rfl (fun ls hl => ?_)
  refine lv_iload_n hx hb dX10_overtakes_44 rfl (lv_at hl 4 rfl) ?_
  refine g_callSi (eC_ok adK adV) C Z (k_X6_xOf x0 σ) lk_X10_191 hl (by decide) rfl (Nat.le_of_ble_eq_true rfl) (rest := []) rfl dX10_overtakes_45 (fun H locs Z => ?_)
  refine lv_iload_n hx hb dX10_overtakes_48 rfl (lv_at hl 6 rfl) ?_
  refine g_callSi (eC_ok adK adV) C Z (k_X6_xOf x2 σ) lk_X10_191 hl (by decide) rfl (Nat.le_of_ble_eq_true rfl) (rest := [.int (f_X6_xOf x0)]) rfl dX10_overtakes_49 (fun H locs Z => ?_)
  refine lv_isub hx hb dX10_overtakes_52 ?_
  obtain ⟨v17, ev17, h⟩ := lb h
  refine tn_i ev17 ?_
  refine lv_istore (lv' := [(8, .int v17), (7, .int v16), (6, .int v15), (5, .int v14), (4, .int v13), (0, .int x0), (1, .int x1), (2, .int x2), (3, .int x3)]) hx hb dX10_overtakes_53 hl (by decide) rfl (fun ls hl => ?_)
  refine lv_iload_n hx hb dX10_overtakes_55 rfl (lv_at hl 5 rfl) ?_
  refine g_callSi (eC_ok adK adV) C Z (k_X6_yOf x0 σ) lk_X10_194 hl (by decide) rfl (Nat.le_of_ble_eq_true rfl) (rest := []) rfl dX10_overtakes_56 (fun H locs Z => ?_)
  refine lv_iload_n hx hb dX10_overtakes_59 rfl (lv_at hl 7 rfl) ?_
  refine g_callSi (eC_ok adK adV) C Z (k_X6_yOf x2 σ) lk_X10_194 hl (by decide) rfl (Nat.le_of_ble_eq_true rfl) (rest := [.int (f_X6_yOf x0)]) rfl dX10_overtakes_60 (fun H locs Z => ?_)
  refine lv_isub hx hb dX10_overtakes_63 ?_
  obtain ⟨v18, ev18, h⟩ := lb h
  refine tn_i ev18 ?_
  refine lv_istore (lv' := [(9, .int v18), (8, .int v17), (7, .int v16), (6, .int v15), (5, .int v14), (4, .int v13), (0, .int x0), (1, .int x1), (2, .int x2), (3, .int x3)]) hx hb dX10_overtakes_64 hl (by decide) rfl (fun ls hl => ?_)
  refine lv_iload hx hb dX10_overtakes_66 (lv_at hl 5 rfl) ?_
  refine lv_iload hx hb dX10_overtakes_68 (lv_at hl 3 rfl) ?_
  refine lv_imul hx hb dX10_overtakes_70 ?_
  refine lv_iload hx hb dX10_overtakes_71 (lv_at hl 4 rfl) ?_
  refine lv_iload hx hb dX10_overtakes_73 (lv_at hl 2 rfl) ?_
  refine lv_imul hx hb dX10_overtakes_75 ?_
  refine lv_iadd hx hb dX10_overtakes_76 ?_
  refine lv_if_le (tgt := 98) hx hb dX10_overtakes_77 (by decide) (fun c77 => ?_) (fun c77 => ?_)
  · have h := ip h c77
    exact w_X10_overtakes_98 C hR Z (lv_sub hl [] rfl) h
  · have h := im h c77
    refine lv_iload hx hb dX10_overtakes_80 (lv_at hl 1 rfl) ?_
    refine lv_iload hx hb dX10_overtakes_82 (lv_at hl 3 rfl) ?_
    refine lv_imul hx hb dX10_overtakes_84 ?_
    refine lv_iload hx hb dX10_overtakes_85 (lv_at hl 0 rfl) ?_
    refine lv_iload hx hb dX10_overtakes_87 (lv_at hl 2 rfl) ?_
    refine lv_imul hx hb dX10_overtakes_89 ?_
    refine lv_iadd hx hb dX10_overtakes_90 ?_
    refine lv_if_ge (tgt := 98) hx hb dX10_overtakes_91 (by decide) (fun c91 => ?_) (fun c91 => ?_)
    · have h := ip h c91
      exact w_X10_overtakes_98 C hR Z (lv_sub hl [] rfl) h
    · have h := im h c91
      refine lv_iconst (v := 1) hx hb dX10_overtakes_94 (by decide) ?_
      refine lv_goto (tgt := 99) hx hb dX10_overtakes_95 (by decide) ?_
      subst h
      exact hR _ _ _ _ _ Z dX10_overtakes_99 rfl
theorem k_X10_overtakes {l : Launch} {kc : Nat → ClassId} {ad : Nat → Nat} {D : va_G} {adK adV : Nat → Nat} (x0 : Int32) (x1 : Int32) (x2 : Int32) (x3 : Int32) (σ : St) : KC (eC adK adV) tC kc ad D l yX10_overtakes (.code yX10_overtakes cX10_overtakes 10 (some .boolean)) r_X10_overtakes [.int x0, .int x1, .int x2, .int x3] (some (.int (f_X10_overtakes x0 x1 x2 x3))) σ σ := by
  refine g_enter (by decide) (Nat.le_of_ble_eq_true rfl) ?_
  intro p e s m args below meth c A hA C hr hlocks Z ls hl
  have hl : lv_has ls 10 [(0, .int x0), (1, .int x1), (2, .int x2), (3, .int x3)] := hl
  exact w_X10_overtakes_0 C (g_RTi C.1.1 C.1.2.1 hr hlocks hA)  Z hl rfl
def r_X10_isToTheRight : Room := { frames := 1, cells := 0, slots := 0, locals := 20 }
set_option maxRecDepth 20000 in
theorem w_X10_isToTheRight_0 {p : Program} {l : Launch} {e : Env} {s : State} {m : MethodId} {args : Array Value} {below : List Frame} {meth : Method} {c : Code} {Q : State → Prop} {D : va_G} {kc : Nat → ClassId} {ad : Nat → Nat} {A : Nat → Prop} {adK adV : Nat → Nat} (C : Cx (eC adK adV) p s m args c cX10_isToTheRight 7 RX10 D kc A) {R : Int32} {x0 : Int32} {x1 : Int32} {x2 : Int32} {σ : St} (hR : RTi 0 0 p l e r_X10_isToTheRight s m args below meth c cX10_isToTheRight tC kc ad D A Q .boolean R σ) {H : Heap} {locs : List Loc} {ls : Array Slot} (Z : Dy tC kc ad D A s.heap σ H locs) (hl : lv_has ls 7 [(0, .int x0), (1, .int x1), (2, .int x2)]) (h : f_X10_isToTheRight x0 x1 x2 = R) : W p l e r_X10_isToTheRight s m args below meth c H locs 0 0 Q (F0 m 0 ls []) := by
  have hx := C.1.1
  have hb := C.1.2.1
  unfold f_X10_isToTheRight at h
  refine lv_iload_n hx hb dX10_isToTheRight_0 rfl (lv_at hl 1 rfl) ?_
  refine g_callSi (eC_ok adK adV) C Z (k_X6_xOf x1 σ) lk_X10_191 hl (by decide) rfl (Nat.le_of_ble_eq_true rfl) (rest := []) rfl dX10_isToTheRight_1 (fun H locs Z => ?_)
  refine lv_iload_n hx hb dX10_isToTheRight_4 rfl (lv_at hl 0 rfl) ?_
  refine g_callSi (eC_ok adK adV) C Z (k_X6_xOf x0 σ) lk_X10_191 hl (by decide) rfl (Nat.le_of_ble_eq_true rfl) (rest := [.int (f_X6_xOf x1)]) rfl dX10_isToTheRight_5 (fun H locs Z => ?_)
  refine lv_isub hx hb dX10_isToTheRight_8 ?_
  obtain ⟨v9, ev9, h⟩ := lb h
  refine tn_i ev9 ?_
  refine lv_istore_n (lv' := [(3, .int v9), (0, .int x0), (1, .int x1), (2, .int x2)]) hx hb dX10_isToTheRight_9 rfl hl (by decide) rfl (fun ls hl => ?_)
  refine lv_iload_n hx hb dX10_isToTheRight_10 rfl (lv_at hl 2 rfl) ?_
  refine g_callSi (eC_ok adK adV) C Z (k_X6_yOf x1 σ) lk_X10_194 hl (by decide) rfl (Nat.le_of_ble_eq_true rfl) (rest := []) rfl dX10_isToTheRight_11 (fun H locs Z => ?_)
  refine lv_iload_n hx hb dX10_isToTheRight_14 rfl (lv_at hl 1 rfl) ?_
  refine g_callSi (eC_ok adK adV) C Z (k_X6_yOf x0 σ) lk_X10_194 hl (by decide) rfl (Nat.le_of_ble_eq_true rfl) (rest := [.int (f_X6_yOf x1)]) rfl dX10_isToTheRight_15 (fun H locs Z => ?_)
  refine lv_isub hx hb dX10_isToTheRight_18 ?_
  obtain ⟨v10, ev10, h⟩ := lb h
  refine tn_i ev10 ?_
  refine lv_istore (lv' := [(4, .int v10), (3, .int v9), (0, .int x0), (1, .int x1), (2, .int x2)]) hx hb dX10_isToTheRight_19 hl (by decide) rfl (fun ls hl => ?_)
  refine lv_iload_n hx hb dX10_isToTheRight_21 rfl (lv_at hl 4 rfl) ?_
  refine g_callSi (eC_ok adK adV) C Z (k_X6_xOf x2 σ) lk_X10_191 hl (by decide) rfl (Nat.le_of_ble_eq_true rfl) (rest := []) rfl dX10_isToTheRight_22 (fun H locs Z => ?_)
  refine lv_iload_n hx hb dX10_isToTheRight_25 rfl (lv_at hl 2 rfl) ?_
  refine g_callSi (eC_ok adK adV) C Z (k_X6_xOf x0 σ) lk_X10_191 hl (by decide) rfl (Nat.le_of_ble_eq_true rfl) (rest := [.int (f_X6_xOf x2)]) rfl dX10_isToTheRight_26 (fun H locs Z => ?_)
  refine lv_isub hx hb dX10_isToTheRight_29 ?_
  obtain ⟨v11, ev11, h⟩ := lb h
  refine tn_i ev11 ?_
  refine lv_istore (lv' := [(5, .int v11), (4, .int v10), (3, .int v9), (0, .int x0), (1, .int x1), (2, .int x2)]) hx hb dX10_isToTheRight_30 hl (by decide) rfl (fun ls hl => ?_)
  refine lv_iload_n hx hb dX10_isToTheRight_32 rfl (lv_at hl 5 rfl) ?_
  refine g_callSi (eC_ok adK adV) C Z (k_X6_yOf x2 σ) lk_X10_194 hl (by decide) rfl (Nat.le_of_ble_eq_true rfl) (rest := []) rfl dX10_isToTheRight_33 (fun H locs Z => ?_)
  refine lv_iload_n hx hb dX10_isToTheRight_36 rfl (lv_at hl 3 rfl) ?_
  refine g_callSi (eC_ok adK adV) C Z (k_X6_yOf x0 σ) lk_X10_194 hl (by decide) rfl (Nat.le_of_ble_eq_true rfl) (rest := [.int (f_X6_yOf x2)]) rfl dX10_isToTheRight_37 (fun H locs Z => ?_)
  refine lv_isub hx hb dX10_isToTheRight_40 ?_
  obtain ⟨v12, ev12, h⟩ := lb h
  refine tn_i ev12 ?_
  refine lv_istore (lv' := [(6, .int v12), (5, .int v11), (4, .int v10), (3, .int v9), (0, .int x0), (1, .int x1), (2, .int x2)]) hx hb dX10_isToTheRight_41 hl (by decide) rfl (fun ls hl => ?_)
  refine lv_iload_n hx hb dX10_isToTheRight_43 rfl (lv_at hl 3 rfl) ?_
  refine lv_iload hx hb dX10_isToTheRight_44 (lv_at hl 0 rfl) ?_
  refine lv_imul hx hb dX10_isToTheRight_46 ?_
  refine lv_iload hx hb dX10_isToTheRight_47 (lv_at hl 2 rfl) ?_
  refine lv_iload hx hb dX10_isToTheRight_49 (lv_at hl 1 rfl) ?_
  refine lv_imul hx hb dX10_isToTheRight_51 ?_
  refine lv_isub hx hb dX10_isToTheRight_52 ?_
  obtain ⟨v13, ev13, h⟩ := lb h
  have hj : W p l e r_X10_isToTheRight s m args below meth c H locs 0 0 Q (F0 m 61 ls [.int v13]) := by
    subst h
    exact hR _ _ _ _ _ Z dX10_isToTheRight_61 (nar_b _)
  refine lv_if_le (tgt := 60) hx hb dX10_isToTheRight_53 (by decide) (fun c53 => ?_) (fun c53 => ?_)
  · rw [if_pos c53] at ev13
    refine lv_iconst (v := 0) hx hb dX10_isToTheRight_60 (by decide) ?_
    exact tn_i ev13 hj
  · rw [if_neg c53] at ev13
    refine lv_iconst (v := 1) hx hb dX10_isToTheRight_56 (by decide) ?_
    refine lv_goto (tgt := 61) hx hb dX10_isToTheRight_57 (by decide) ?_
    exact tn_i ev13 hj
theorem k_X10_isToTheRight {l : Launch} {kc : Nat → ClassId} {ad : Nat → Nat} {D : va_G} {adK adV : Nat → Nat} (x0 : Int32) (x1 : Int32) (x2 : Int32) (σ : St) : KC (eC adK adV) tC kc ad D l yX10_isToTheRight (.code yX10_isToTheRight cX10_isToTheRight 7 (some .boolean)) r_X10_isToTheRight [.int x0, .int x1, .int x2] (some (.int (f_X10_isToTheRight x0 x1 x2))) σ σ := by
  refine g_enter (by decide) (Nat.le_of_ble_eq_true rfl) ?_
  intro p e s m args below meth c A hA C hr hlocks Z ls hl
  have hl : lv_has ls 7 [(0, .int x0), (1, .int x1), (2, .int x2)] := hl
  exact w_X10_isToTheRight_0 C (g_RTi C.1.1 C.1.2.1 hr hlocks hA)  Z hl rfl
def r_X10_way : Room := { frames := 2, cells := 0, slots := 0, locals := 49 }
set_option maxRecDepth 20000 in
theorem w_X10_way_213 {p : Program} {l : Launch} {e : Env} {s : State} {m : MethodId} {args : Array Value} {below : List Frame} {meth : Method} {c : Code} {Q : State → Prop} {D : va_G} {kc : Nat → ClassId} {ad : Nat → Nat} {A : Nat → Prop} {adK adV : Nat → Nat} (C : Cx (eC adK adV) p s m args c cX10_way 13 RX10 D kc A) {R : Int32} {x11 : Int32} {y0 : Int32} {σ : St} (hR : RTi 0 0 p l e r_X10_way s m args below meth c cX10_way tC kc ad D A Q .int R σ) {H : Heap} {locs : List Loc} {ls : Array Slot} (Z : Dy tC kc ad D A s.heap σ H locs) (hl : lv_has ls 13 [(11, .int x11)]) (h : f_X10_way_213 x11 y0 σ = some R) : W p l e r_X10_way s m args below meth c H locs 0 0 Q (F0 m 213 ls [.int y0]) := by
  have hx := C.1.1
  have hb := C.1.2.1
  unfold f_X10_way_213 at h
  refine lv_istore (lv' := [(12, .int y0), (11, .int x11)]) hx hb dX10_way_213 hl (by decide) rfl (fun ls hl => ?_)
  refine lv_iload hx hb dX10_way_215 (lv_at hl 1 rfl) ?_
  obtain ⟨v19, ev19, h⟩ := lb h
  have hj : W p l e r_X10_way s m args below meth c H locs 0 0 Q (F0 m 225 ls [.int v19]) := by
    refine lv_iload hx hb dX10_way_225 (lv_at hl 0 rfl) ?_
    obtain ⟨v20, ev20, h⟩ := lb h
    have hj : W p l e r_X10_way s m args below meth c H locs 0 0 Q (F0 m 235 ls [.int v20, .int v19]) := by
      refine lv_iadd hx hb dX10_way_235 ?_
      obtain rfl := Option.some.inj h
      exact hR _ _ _ _ _ Z dX10_way_236 rfl
    refine lv_if_eq (tgt := 234) hx hb dX10_way_227 (by decide) (fun c227 => ?_) (fun c227 => ?_)
    · rw [if_pos c227] at ev20
      refine lv_iconst (v := 0) hx hb dX10_way_234 (by decide) ?_
      exact tn_i ev20 hj
    · rw [if_neg c227] at ev20
      refine lv_iconst (v := 2) hx hb dX10_way_230 (by decide) ?_
      refine lv_goto (tgt := 235) hx hb dX10_way_231 (by decide) ?_
      exact tn_i ev20 hj
  refine lv_if_eq (tgt := 224) hx hb dX10_way_217 (by decide) (fun c217 => ?_) (fun c217 => ?_)
  · rw [if_pos c217] at ev19
    refine lv_iconst (v := 0) hx hb dX10_way_224 (by decide) ?_
    exact tn_i ev19 hj
  · rw [if_neg c217] at ev19
    refine lv_iconst (v := 1) hx hb dX10_way_220 (by decide) ?_
    refine lv_goto (tgt := 225) hx hb dX10_way_221 (by decide) ?_
    exact tn_i ev19 hj
set_option maxRecDepth 20000 in
theorem w_X10_way_208 {p : Program} {l : Launch} {e : Env} {s : State} {m : MethodId} {args : Array Value} {below : List Frame} {meth : Method} {c : Code} {Q : State → Prop} {D : va_G} {kc : Nat → ClassId} {ad : Nat → Nat} {A : Nat → Prop} {adK adV : Nat → Nat} (C : Cx (eC adK adV) p s m args c cX10_way 13 RX10 D kc A) {R : Int32} {x11 : Int32} {σ : St} (hR : RTi 0 0 p l e r_X10_way s m args below meth c cX10_way tC kc ad D A Q .int R σ) {H : Heap} {locs : List Loc} {ls : Array Slot} (Z : Dy tC kc ad D A s.heap σ H locs) (hl : lv_has ls 13 [(11, .int x11)]) (h : f_X10_way_208 x11 σ = some R) : W p l e r_X10_way s m args below meth c H locs 0 0 Q (F0 m 208 ls []) := by
  have hx := C.1.1
  have hb := C.1.2.1
  unfold f_X10_way_208 at h
  refine lv_iconst (v := 1) hx hb dX10_way_208 (by decide) ?_
  refine lv_goto (tgt := 213) hx hb dX10_way_209 (by decide) ?_
  exact w_X10_way_213 C hR Z (lv_sub hl [0] rfl) h
set_option maxRecDepth 20000 in
theorem w_X10_way_212 {p : Program} {l : Launch} {e : Env} {s : State} {m : MethodId} {args : Array Value} {below : List Frame} {meth : Method} {c : Code} {Q : State → Prop} {D : va_G} {kc : Nat → ClassId} {ad : Nat → Nat} {A : Nat → Prop} {adK adV : Nat → Nat} (C : Cx (eC adK adV) p s m args c cX10_way 13 RX10 D kc A) {R : Int32} {x11 : Int32} {σ : St} (hR : RTi 0 0 p l e r_X10_way s m args below meth c cX10_way tC kc ad D A Q .int R σ) {H : Heap} {locs : List Loc} {ls : Array Slot} (Z : Dy tC kc ad D A s.heap σ H locs) (hl : lv_has ls 13 [(11, .int x11)]) (h : f_X10_way_212 x11 σ = some R) : W p l e r_X10_way s m args below meth c H locs 0 0 Q (F0 m 212 ls []) := by
  have hx := C.1.1
  have hb := C.1.2.1
  unfold f_X10_way_212 at h
  refine lv_iconst (v := 0) hx hb dX10_way_212 (by decide) ?_
  exact w_X10_way_213 C hR Z (lv_sub hl [0] rfl) h
set_option maxRecDepth 20000 in
theorem w_X10_way_184 {p : Program} {l : Launch} {e : Env} {s : State} {m : MethodId} {args : Array Value} {below : List Frame} {meth : Method} {c : Code} {Q : State → Prop} {D : va_G} {kc : Nat → ClassId} {ad : Nat → Nat} {A : Nat → Prop} {adK adV : Nat → Nat} (C : Cx (eC adK adV) p s m args c cX10_way 13 RX10 D kc A) {R : Int32} {x5 : Int32} {x7 : Int32} {x8 : Int32} {x9 : Int32} {x10 : Int32} {y0 : Int32} {σ : St} (hR : RTi 0 0 p l e r_X10_way s m args below meth c cX10_way tC kc ad D A Q .int R σ) {H : Heap} {locs : List Loc} {ls : Array Slot} (Z : Dy tC kc ad D A s.heap σ H locs) (hl : lv_has ls 13 [(5, .int x5), (7, .int x7), (8, .int x8), (9, .int x9), (10, .int x10)]) (h : f_X10_way_184 x5 x7 x8 x9 x10 y0 σ = some R) : W p l e r_X10_way s m args below meth c H locs 0 0 Q (F0 m 184 ls [.int y0]) := by
  have hx := C.1.1
  have hb := C.1.2.1
  unfold f_X10_way_184 at h
  refine lv_istore (lv' := [(11, .int y0), (5, .int x5), (7, .int x7), (8, .int x8), (9, .int x9), (10, .int x10)]) hx hb dX10_way_184 hl (by decide) rfl (fun ls hl => ?_)
  refine lv_iload hx hb dX10_way_186 (lv_at hl 4 rfl) ?_
  refine lv_if_ne (tgt := 212) hx hb dX10_way_188 (by decide) (fun c188 => ?_) (fun c188 => ?_)
  · have h := im h c188
    exact w_X10_way_212 C hR Z (lv_sub hl [0] rfl) h
  · have h := ip h c188
    refine lv_iload hx hb dX10_way_191 (lv_at hl 5 rfl) ?_
    refine lv_if_ne (tgt := 208) hx hb dX10_way_193 (by decide) (fun c193 => ?_) (fun c193 => ?_)
    · have h := im h c193
      exact w_X10_way_208 C hR Z (lv_sub hl [0] rfl) h
    · have h := ip h c193
      refine lv_iload hx hb dX10_way_196 (lv_at hl 2 rfl) ?_
      refine lv_iload hx hb dX10_way_198 (lv_at hl 3 rfl) ?_
      refine lv_iload hx hb dX10_way_200 (lv_at hl 1 rfl) ?_
      refine g_callSi (eC_ok adK adV) C Z (k_X10_isToTheRight x7 x8 x5 σ) lk_X10_278 hl (by decide) rfl (Nat.le_of_ble_eq_true rfl) (rest := []) rfl dX10_way_202 (fun H locs Z => ?_)
      refine lv_if_eq (tgt := 212) hx hb dX10_way_205 (by decide) (fun c205 => ?_) (fun c205 => ?_)
      · have h := ip h c205
        exact w_X10_way_212 C hR Z (lv_sub hl [0] rfl) h
      · have h := im h c205
        exact w_X10_way_208 C hR Z (lv_sub hl [0] rfl) h
set_option maxRecDepth 20000 in
theorem w_X10_way_179 {p : Program} {l : Launch} {e : Env} {s : State} {m : MethodId} {args : Array Value} {below : List Frame} {meth : Method} {c : Code} {Q : State → Prop} {D : va_G} {kc : Nat → ClassId} {ad : Nat → Nat} {A : Nat → Prop} {adK adV : Nat → Nat} (C : Cx (eC adK adV) p s m args c cX10_way 13 RX10 D kc A) {R : Int32} {x5 : Int32} {x7 : Int32} {x8 : Int32} {x9 : Int32} {x10 : Int32} {σ : St} (hR : RTi 0 0 p l e r_X10_way s m args below meth c cX10_way tC kc ad D A Q .int R σ) {H : Heap} {locs : List Loc} {ls : Array Slot} (Z : Dy tC kc ad D A s.heap σ H locs) (hl : lv_has ls 13 [(5, .int x5), (7, .int x7), (8, .int x8), (9, .int x9), (10, .int x10)]) (h : f_X10_way_179 x5 x7 x8 x9 x10 σ = some R) : W p l e r_X10_way s m args below meth c H locs 0 0 Q (F0 m 179 ls []) := by
  have hx := C.1.1
  have hb := C.1.2.1
  unfold f_X10_way_179 at h
  refine lv_iconst (v := 1) hx hb dX10_way_179 (by decide) ?_
  refine lv_goto (tgt := 184) hx hb dX10_way_180 (by decide) ?_
  exact w_X10_way_184 C hR Z (lv_sub hl [0, 1, 2, 3, 4] rfl) h
set_option maxRecDepth 20000 in
theorem w_X10_way_183 {p : Program} {l : Launch} {e : Env} {s : State} {m : MethodId} {args : Array Value} {below : List Frame} {meth : Method} {c : Code} {Q : State → Prop} {D : va_G} {kc : Nat → ClassId} {ad : Nat → Nat} {A : Nat → Prop} {adK adV : Nat → Nat} (C : Cx (eC adK adV) p s m args c cX10_way 13 RX10 D kc A) {R : Int32} {x5 : Int32} {x7 : Int32} {x8 : Int32} {x9 : Int32} {x10 : Int32} {σ : St} (hR : RTi 0 0 p l e r_X10_way s m args below meth c cX10_way tC kc ad D A Q .int R σ) {H : Heap} {locs : List Loc} {ls : Array Slot} (Z : Dy tC kc ad D A s.heap σ H locs) (hl : lv_has ls 13 [(5, .int x5), (7, .int x7), (8, .int x8), (9, .int x9), (10, .int x10)]) (h : f_X10_way_183 x5 x7 x8 x9 x10 σ = some R) : W p l e r_X10_way s m args below meth c H locs 0 0 Q (F0 m 183 ls []) := by
  have hx := C.1.1
  have hb := C.1.2.1
  unfold f_X10_way_183 at h
  refine lv_iconst (v := 0) hx hb dX10_way_183 (by decide) ?_
  exact w_X10_way_184 C hR Z (lv_sub hl [0, 1, 2, 3, 4] rfl) h
set_option maxRecDepth 20000 in
theorem w_X10_way_0 {p : Program} {l : Launch} {e : Env} {s : State} {m : MethodId} {args : Array Value} {below : List Frame} {meth : Method} {c : Code} {Q : State → Prop} {D : va_G} {kc : Nat → ClassId} {ad : Nat → Nat} {A : Nat → Prop} {adK adV : Nat → Nat} (C : Cx (eC adK adV) p s m args c cX10_way 13 RX10 D kc A) {R : Int32} {x1 : Int32} {x2 : Int32} {x3 : Int32} {x4 : Int32} {σ : St} (hR : RTi 0 0 p l e r_X10_way s m args below meth c cX10_way tC kc ad D A Q .int R σ) {H : Heap} {locs : List Loc} {ls : Array Slot} (Z : Dy tC kc ad D A s.heap σ H locs) (hl : lv_has ls 13 [(0, .ref (ad 0)), (1, .int x1), (2, .int x2), (3, .int x3), (4, .int x4)]) (h : f_X10_way x1 x2 x3 x4 σ = some R) : W p l e r_X10_way s m args below meth c H locs 0 0 Q (F0 m 0 ls []) := by
  have hx := C.1.1
  have hb := C.1.2.1
  unfold f_X10_way at h
  refine lv_aload_n hx hb dX10_way_0 rfl (lv_at hl 0 rfl) ?_
  refine rg_X10_23 C Z dX10_way_1 ?_
  refine lv_iload_n hx hb dX10_way_4 rfl (lv_at hl 1 rfl) ?_
  refine g_callVi (eC_ok adK adV) C Z (k_X7_has x1 σ) lk_X10_119 (by decide) rfl rfl hl (by decide) rfl (Nat.le_of_ble_eq_true rfl) (rest := []) rfl dX10_way_5 (fun H locs Z => ?_)
  refine lv_if_eq (tgt := 46) hx hb dX10_way_8 (by decide) (fun c8 => ?_) (fun c8 => ?_)
  · have h := ip h c8
    refine lv_iconst (v := (-1)) hx hb dX10_way_46 (by decide) ?_
    obtain rfl := Option.some.inj h
    exact hR _ _ _ _ _ Z dX10_way_47 rfl
  · have h := im h c8
    refine lv_aload_n hx hb dX10_way_11 rfl (lv_at hl 0 rfl) ?_
    refine rg_X10_23 C Z dX10_way_12 ?_
    refine lv_iload_n hx hb dX10_way_15 rfl (lv_at hl 2 rfl) ?_
    refine g_callVi (eC_ok adK adV) C Z (k_X7_has x2 σ) lk_X10_119 (by decide) rfl rfl hl (by decide) rfl (Nat.le_of_ble_eq_true rfl) (rest := []) rfl dX10_way_16 (fun H locs Z => ?_)
    refine lv_if_eq (tgt := 46) hx hb dX10_way_19 (by decide) (fun c19 => ?_) (fun c19 => ?_)
    · have h := ip h c19
      refine lv_iconst (v := (-1)) hx hb dX10_way_46 (by decide) ?_
      obtain rfl := Option.some.inj h
      exact hR _ _ _ _ _ Z dX10_way_47 rfl
    · have h := im h c19
      refine lv_iload_n hx hb dX10_way_22 rfl (lv_at hl 1 rfl) ?_
      refine lv_iload_n hx hb dX10_way_23 rfl (lv_at hl 2 rfl) ?_
      refine lv_icmp_eq (tgt := 46) hx hb dX10_way_24 (by decide) (fun c24 => ?_) (fun c24 => ?_)
      · have h := ip h c24
        refine lv_iconst (v := (-1)) hx hb dX10_way_46 (by decide) ?_
        obtain rfl := Option.some.inj h
        exact hR _ _ _ _ _ Z dX10_way_47 rfl
      · have h := im h c24
        refine lv_iload_n hx hb dX10_way_27 rfl (lv_at hl 3 rfl) ?_
        refine lv_iconst (v := 1) hx hb dX10_way_28 (by decide) ?_
        refine lv_sipush (v := 8999) hx hb dX10_way_29 (by decide) ?_
        refine g_callSi (eC_ok adK adV) C Z (k_X10_lies x3 1 8999 σ) lk_X10_99 hl (by decide) rfl (Nat.le_of_ble_eq_true rfl) (rest := []) rfl dX10_way_32 (fun H locs Z => ?_)
        refine lv_if_eq (tgt := 46) hx hb dX10_way_35 (by decide) (fun c35 => ?_) (fun c35 => ?_)
        · have h := ip h c35
          refine lv_iconst (v := (-1)) hx hb dX10_way_46 (by decide) ?_
          obtain rfl := Option.some.inj h
          exact hR _ _ _ _ _ Z dX10_way_47 rfl
        · have h := im h c35
          refine lv_iload hx hb dX10_way_38 (lv_at hl 4 rfl) ?_
          refine g_callSi (eC_ok adK adV) C Z (k_X10_isMinute x4 σ) lk_X10_125 hl (by decide) rfl (Nat.le_of_ble_eq_true rfl) (rest := []) rfl dX10_way_40 (fun H locs Z => ?_)
          refine lv_if_ne (tgt := 48) hx hb dX10_way_43 (by decide) (fun c43 => ?_) (fun c43 => ?_)
          · have h := im h c43
            refine lv_aload_n hx hb dX10_way_48 rfl (lv_at hl 0 rfl) ?_
            refine rg_X10_30 C Z dX10_way_49 ?_
            refine lv_iload_n hx hb dX10_way_52 rfl (lv_at hl 1 rfl) ?_
            refine lv_iload_n hx hb dX10_way_53 rfl (lv_at hl 3 rfl) ?_
            refine lv_iconst (v := 1) hx hb dX10_way_54 (by decide) ?_
            refine lv_isub hx hb dX10_way_55 ?_
            refine lv_iload hx hb dX10_way_56 (lv_at hl 4 rfl) ?_
            obtain ⟨v13, hv13, h⟩ := ob h
            refine g_callVi (eC_ok adK adV) C Z (k_X5_cellOf hv13) lk_X10_128 (by decide) rfl rfl hl (by decide) rfl (Nat.le_of_ble_eq_true rfl) (rest := []) rfl dX10_way_58 (fun H locs Z => ?_)
            refine lv_istore (lv' := [(5, .int v13), (0, .ref (ad 0)), (1, .int x1), (2, .int x2), (3, .int x3), (4, .int x4)]) hx hb dX10_way_61 hl (by decide) rfl (fun ls hl => ?_)
            refine lv_aload_n hx hb dX10_way_63 rfl (lv_at hl 1 rfl) ?_
            refine rg_X10_30 C Z dX10_way_64 ?_
            refine lv_iload_n hx hb dX10_way_67 rfl (lv_at hl 2 rfl) ?_
            refine lv_iload_n hx hb dX10_way_68 rfl (lv_at hl 4 rfl) ?_
            refine lv_iload hx hb dX10_way_69 (lv_at hl 5 rfl) ?_
            obtain ⟨v14, hv14, h⟩ := ob h
            refine g_callVi (eC_ok adK adV) C Z (k_X5_cellOf hv14) lk_X10_128 (by decide) rfl rfl hl (by decide) rfl (Nat.le_of_ble_eq_true rfl) (rest := []) rfl dX10_way_71 (fun H locs Z => ?_)
            refine lv_istore (lv' := [(6, .int v14), (5, .int v13), (0, .ref (ad 0)), (1, .int x1), (2, .int x2), (3, .int x3), (4, .int x4)]) hx hb dX10_way_74 hl (by decide) rfl (fun ls hl => ?_)
            refine lv_aload_n hx hb dX10_way_76 rfl (lv_at hl 2 rfl) ?_
            refine rg_X10_30 C Z dX10_way_77 ?_
            refine lv_iload_n hx hb dX10_way_80 rfl (lv_at hl 4 rfl) ?_
            refine lv_iload_n hx hb dX10_way_81 rfl (lv_at hl 5 rfl) ?_
            refine lv_iconst (v := 1) hx hb dX10_way_82 (by decide) ?_
            refine lv_isub hx hb dX10_way_83 ?_
            refine lv_iload hx hb dX10_way_84 (lv_at hl 6 rfl) ?_
            obtain ⟨v15, hv15, h⟩ := ob h
            refine g_callVi (eC_ok adK adV) C Z (k_X5_cellOf hv15) lk_X10_128 (by decide) rfl rfl hl (by decide) rfl (Nat.le_of_ble_eq_true rfl) (rest := []) rfl dX10_way_86 (fun H locs Z => ?_)
            refine lv_istore (lv' := [(7, .int v15), (6, .int v14), (5, .int v13), (0, .ref (ad 0)), (1, .int x1), (2, .int x2), (3, .int x3), (4, .int x4)]) hx hb dX10_way_89 hl (by decide) rfl (fun ls hl => ?_)
            refine lv_aload_n hx hb dX10_way_91 rfl (lv_at hl 3 rfl) ?_
            refine rg_X10_30 C Z dX10_way_92 ?_
            refine lv_iload_n hx hb dX10_way_95 rfl (lv_at hl 5 rfl) ?_
            refine lv_iload_n hx hb dX10_way_96 rfl (lv_at hl 6 rfl) ?_
            refine lv_iload hx hb dX10_way_97 (lv_at hl 7 rfl) ?_
            obtain ⟨v16, hv16, h⟩ := ob h
            refine g_callVi (eC_ok adK adV) C Z (k_X5_cellOf hv16) lk_X10_128 (by decide) rfl rfl hl (by decide) rfl (Nat.le_of_ble_eq_true rfl) (rest := []) rfl dX10_way_99 (fun H locs Z => ?_)
            refine lv_istore (lv' := [(8, .int v16), (7, .int v15), (6, .int v14), (5, .int v13), (0, .ref (ad 0)), (1, .int x1), (2, .int x2), (3, .int x3), (4, .int x4)]) hx hb dX10_way_102 hl (by decide) rfl (fun ls hl => ?_)
            refine lv_iload hx hb dX10_way_104 (lv_at hl 3 rfl) ?_
            refine lv_iconst (v := (-1)) hx hb dX10_way_106 (by decide) ?_
            refine lv_icmp_eq (tgt := 128) hx hb dX10_way_107 (by decide) (fun c107 => ?_) (fun c107 => ?_)
            · have h := ip h c107
              refine lv_bipush (v := (-2)) hx hb dX10_way_128 (by decide) ?_
              obtain rfl := Option.some.inj h
              exact hR _ _ _ _ _ Z dX10_way_130 rfl
            · have h := im h c107
              refine lv_iload hx hb dX10_way_110 (lv_at hl 2 rfl) ?_
              refine lv_iconst (v := (-1)) hx hb dX10_way_112 (by decide) ?_
              refine lv_icmp_eq (tgt := 128) hx hb dX10_way_113 (by decide) (fun c113 => ?_) (fun c113 => ?_)
              · have h := ip h c113
                refine lv_bipush (v := (-2)) hx hb dX10_way_128 (by decide) ?_
                obtain rfl := Option.some.inj h
                exact hR _ _ _ _ _ Z dX10_way_130 rfl
              · have h := im h c113
                refine lv_iload hx hb dX10_way_116 (lv_at hl 1 rfl) ?_
                refine lv_iconst (v := (-1)) hx hb dX10_way_118 (by decide) ?_
                refine lv_icmp_eq (tgt := 128) hx hb dX10_way_119 (by decide) (fun c119 => ?_) (fun c119 => ?_)
                · have h := ip h c119
                  refine lv_bipush (v := (-2)) hx hb dX10_way_128 (by decide) ?_
                  obtain rfl := Option.some.inj h
                  exact hR _ _ _ _ _ Z dX10_way_130 rfl
                · have h := im h c119
                  refine lv_iload hx hb dX10_way_122 (lv_at hl 0 rfl) ?_
                  refine lv_iconst (v := (-1)) hx hb dX10_way_124 (by decide) ?_
                  refine lv_icmp_ne (tgt := 131) hx hb dX10_way_125 (by decide) (fun c125 => ?_) (fun c125 => ?_)
                  · have h := im h c125
                    refine lv_iload hx hb dX10_way_131 (lv_at hl 3 rfl) ?_
                    refine lv_iload hx hb dX10_way_133 (lv_at hl 2 rfl) ?_
                    refine lv_iload hx hb dX10_way_135 (lv_at hl 1 rfl) ?_
                    refine lv_iload hx hb dX10_way_137 (lv_at hl 0 rfl) ?_
                    refine g_callSi (eC_ok adK adV) C Z (k_X10_overtakes v13 v14 v15 v16 σ) lk_X10_274 hl (by decide) rfl (Nat.le_of_ble_eq_true rfl) (rest := []) rfl dX10_way_139 (fun H locs Z => ?_)
                    obtain ⟨v17, ev17, h⟩ := lb h
                    refine tn_i ev17 ?_
                    refine lv_istore (lv' := [(9, .int v17), (8, .int v16), (7, .int v15), (6, .int v14), (5, .int v13), (0, .ref (ad 0)), (1, .int x1), (2, .int x2), (3, .int x3), (4, .int x4)]) hx hb dX10_way_142 hl (by decide) rfl (fun ls hl => ?_)
                    refine lv_iload hx hb dX10_way_144 (lv_at hl 2 rfl) ?_
                    refine lv_iload hx hb dX10_way_146 (lv_at hl 1 rfl) ?_
                    refine lv_iload hx hb dX10_way_148 (lv_at hl 4 rfl) ?_
                    refine lv_iload hx hb dX10_way_150 (lv_at hl 3 rfl) ?_
                    refine g_callSi (eC_ok adK adV) C Z (k_X10_overtakes v15 v16 v13 v14 σ) lk_X10_274 hl (by decide) rfl (Nat.le_of_ble_eq_true rfl) (rest := []) rfl dX10_way_152 (fun H locs Z => ?_)
                    obtain ⟨v18, ev18, h⟩ := lb h
                    refine tn_i ev18 ?_
                    refine lv_istore (lv' := [(10, .int v18), (9, .int v17), (8, .int v16), (7, .int v15), (6, .int v14), (5, .int v13), (0, .ref (ad 0)), (1, .int x1), (2, .int x2), (3, .int x3), (4, .int x4)]) hx hb dX10_way_155 hl (by decide) rfl (fun ls hl => ?_)
                    refine lv_iload hx hb dX10_way_157 (lv_at hl 0 rfl) ?_
                    refine lv_if_ne (tgt := 183) hx hb dX10_way_159 (by decide) (fun c159 => ?_) (fun c159 => ?_)
                    · have h := im h c159
                      exact w_X10_way_183 C hR Z (lv_sub hl [5, 3, 2, 1, 0] rfl) h
                    · have h := ip h c159
                      refine lv_iload hx hb dX10_way_162 (lv_at hl 1 rfl) ?_
                      refine lv_if_ne (tgt := 179) hx hb dX10_way_164 (by decide) (fun c164 => ?_) (fun c164 => ?_)
                      · have h := im h c164
                        exact w_X10_way_179 C hR Z (lv_sub hl [5, 3, 2, 1, 0] rfl) h
                      · have h := ip h c164
                        refine lv_iload hx hb dX10_way_167 (lv_at hl 5 rfl) ?_
                        refine lv_iload hx hb dX10_way_169 (lv_at hl 4 rfl) ?_
                        refine lv_iload hx hb dX10_way_171 (lv_at hl 3 rfl) ?_
                        refine g_callSi (eC_ok adK adV) C Z (k_X10_isToTheRight v13 v14 v15 σ) lk_X10_278 hl (by decide) rfl (Nat.le_of_ble_eq_true rfl) (rest := []) rfl dX10_way_173 (fun H locs Z => ?_)
                        refine lv_if_eq (tgt := 183) hx hb dX10_way_176 (by decide) (fun c176 => ?_) (fun c176 => ?_)
                        · have h := ip h c176
                          exact w_X10_way_183 C hR Z (lv_sub hl [5, 3, 2, 1, 0] rfl) h
                        · have h := im h c176
                          exact w_X10_way_179 C hR Z (lv_sub hl [5, 3, 2, 1, 0] rfl) h
                  · have h := ip h c125
                    refine lv_bipush (v := (-2)) hx hb dX10_way_128 (by decide) ?_
                    obtain rfl := Option.some.inj h
                    exact hR _ _ _ _ _ Z dX10_way_130 rfl
          · have h := ip h c43
            refine lv_iconst (v := (-1)) hx hb dX10_way_46 (by decide) ?_
            obtain rfl := Option.some.inj h
            exact hR _ _ _ _ _ Z dX10_way_47 rfl
theorem k_X10_way {l : Launch} {kc : Nat → ClassId} {ad : Nat → Nat} {D : va_G} {adK adV : Nat → Nat} {x1 : Int32} {x2 : Int32} {x3 : Int32} {x4 : Int32} {σ : St} {R : Int32} (h : f_X10_way x1 x2 x3 x4 σ = some R) : KC (eC adK adV) tC kc ad D l yX10_way (.code yX10_way cX10_way 13 (some .int)) r_X10_way [.ref (ad 0), .int x1, .int x2, .int x3, .int x4] (some (.int R)) σ σ := by
  refine g_enter (by decide) (Nat.le_of_ble_eq_true rfl) ?_
  intro p e s m args below meth c A hA C hr hlocks Z ls hl
  have hl : lv_has ls 13 [(0, .ref (ad 0)), (1, .int x1), (2, .int x2), (3, .int x3), (4, .int x4)] := hl
  exact w_X10_way_0 C (g_RTi C.1.1 C.1.2.1 hr hlocks hA)  Z hl h
def r_X10_office : Room := { frames := 1, cells := 0, slots := 0, locals := 22 }
set_option maxRecDepth 20000 in
theorem w_X10_office_0 {p : Program} {l : Launch} {e : Env} {s : State} {m : MethodId} {args : Array Value} {below : List Frame} {meth : Method} {c : Code} {Q : State → Prop} {D : va_G} {kc : Nat → ClassId} {ad : Nat → Nat} {A : Nat → Prop} {adK adV : Nat → Nat} (C : Cx (eC adK adV) p s m args c cX10_office 4 RX10 D kc A) {R : Int32 × St} {x1 : Int32} {x2 : Int32} {x3 : Int32} {σ : St} (hR : RTi 0 0 p l e r_X10_office s m args below meth c cX10_office tC kc ad D A Q .boolean R.1 R.2) {H : Heap} {locs : List Loc} {ls : Array Slot} (Z : Dy tC kc ad D A s.heap σ H locs) (hl : lv_has ls 4 [(0, .ref (ad 0)), (1, .int x1), (2, .int x2), (3, .int x3)]) (h : f_X10_office x1 x2 x3 σ = some R) : W p l e r_X10_office s m args below meth c H locs 0 0 Q (F0 m 0 ls []) := by
  have hx := C.1.1
  have hb := C.1.2.1
  unfold f_X10_office at h
  refine lv_iload_n hx hb dX10_office_0 rfl (lv_at hl 1 rfl) ?_
  refine lv_iconst (v := 0) hx hb dX10_office_1 (by decide) ?_
  refine lv_iconst (v := 1) hx hb dX10_office_2 (by decide) ?_
  refine g_callSi (eC_ok adK adV) C Z (k_X10_lies x1 0 1 σ) lk_X10_99 hl (by decide) rfl (Nat.le_of_ble_eq_true rfl) (rest := []) rfl dX10_office_3 (fun H locs Z => ?_)
  refine lv_if_eq (tgt := 31) hx hb dX10_office_6 (by decide) (fun c6 => ?_) (fun c6 => ?_)
  · have h := ip h c6
    refine lv_iconst (v := 0) hx hb dX10_office_31 (by decide) ?_
    obtain rfl := Option.some.inj h
    exact hR _ _ _ _ _ Z dX10_office_32 rfl
  · have h := im h c6
    refine lv_iload_n hx hb dX10_office_9 rfl (lv_at hl 2 rfl) ?_
    refine lv_iconst (v := 0) hx hb dX10_office_10 (by decide) ?_
    refine lv_ldcw (v := 99999999) hx hb C.1.2.2.2.1 (C.1.2.2.2.2 _ wD_X10_281) dX10_office_11 ?_
    refine g_callSi (eC_ok adK adV) C Z (k_X10_lies x2 0 99999999 σ) lk_X10_99 hl (by decide) rfl (Nat.le_of_ble_eq_true rfl) (rest := []) rfl dX10_office_14 (fun H locs Z => ?_)
    refine lv_if_eq (tgt := 31) hx hb dX10_office_17 (by decide) (fun c17 => ?_) (fun c17 => ?_)
    · have h := ip h c17
      refine lv_iconst (v := 0) hx hb dX10_office_31 (by decide) ?_
      obtain rfl := Option.some.inj h
      exact hR _ _ _ _ _ Z dX10_office_32 rfl
    · have h := im h c17
      refine lv_iload_n hx hb dX10_office_20 rfl (lv_at hl 3 rfl) ?_
      refine lv_iconst (v := 0) hx hb dX10_office_21 (by decide) ?_
      refine lv_sipush (v := 1000) hx hb dX10_office_22 (by decide) ?_
      refine g_callSi (eC_ok adK adV) C Z (k_X10_lies x3 0 1000 σ) lk_X10_99 hl (by decide) rfl (Nat.le_of_ble_eq_true rfl) (rest := []) rfl dX10_office_25 (fun H locs Z => ?_)
      refine lv_if_ne (tgt := 33) hx hb dX10_office_28 (by decide) (fun c28 => ?_) (fun c28 => ?_)
      · have h := im h c28
        refine lv_aload_n hx hb dX10_office_33 rfl (lv_at hl 0 rfl) ?_
        refine rg_X10_74 C Z dX10_office_34 ?_
        refine rg_X10_282 C Z dX10_office_37 ?_
        refine lv_iload_n hx hb dX10_office_40 rfl (lv_at hl 1 rfl) ?_
        refine lv_iload_n hx hb dX10_office_41 rfl (lv_at hl 2 rfl) ?_
        obtain ⟨σ5, hσ5, h⟩ := ob h
        refine g_iast C Z iaC50 hσ5 dX10_office_42 (fun H locs Z => ?_)
        refine lv_aload_n hx hb dX10_office_43 rfl (lv_at hl 0 rfl) ?_
        refine rg_X10_74 C Z dX10_office_44 ?_
        refine rg_X10_285 C Z dX10_office_47 ?_
        refine lv_iload_n hx hb dX10_office_50 rfl (lv_at hl 1 rfl) ?_
        refine lv_iload_n hx hb dX10_office_51 rfl (lv_at hl 3 rfl) ?_
        obtain ⟨σ6, hσ6, h⟩ := ob h
        refine g_iast C Z iaC51 hσ6 dX10_office_52 (fun H locs Z => ?_)
        refine lv_iconst (v := 1) hx hb dX10_office_53 (by decide) ?_
        obtain rfl := Option.some.inj h
        exact hR _ _ _ _ _ Z dX10_office_54 rfl
      · have h := ip h c28
        refine lv_iconst (v := 0) hx hb dX10_office_31 (by decide) ?_
        obtain rfl := Option.some.inj h
        exact hR _ _ _ _ _ Z dX10_office_32 rfl
theorem k_X10_office {l : Launch} {kc : Nat → ClassId} {ad : Nat → Nat} {D : va_G} {adK adV : Nat → Nat} {x1 : Int32} {x2 : Int32} {x3 : Int32} {σ : St} {R : Int32 × St} (h : f_X10_office x1 x2 x3 σ = some R) : KC (eC adK adV) tC kc ad D l yX10_office (.code yX10_office cX10_office 4 (some .boolean)) r_X10_office [.ref (ad 0), .int x1, .int x2, .int x3] (some (.int R.1)) σ R.2 := by
  refine g_enter (by decide) (Nat.le_of_ble_eq_true rfl) ?_
  intro p e s m args below meth c A hA C hr hlocks Z ls hl
  have hl : lv_has ls 4 [(0, .ref (ad 0)), (1, .int x1), (2, .int x2), (3, .int x3)] := hl
  exact w_X10_office_0 C (g_RTi C.1.1 C.1.2.1 hr hlocks hA)  Z hl h
def r_X10_year : Room := { frames := 3, cells := 0, slots := 0, locals := 66 }
set_option maxRecDepth 20000 in
theorem w_X10_year_0 {p : Program} {l : Launch} {e : Env} {s : State} {m : MethodId} {args : Array Value} {below : List Frame} {meth : Method} {c : Code} {Q : State → Prop} {D : va_G} {kc : Nat → ClassId} {ad : Nat → Nat} {A : Nat → Prop} {adK adV : Nat → Nat} (C : Cx (eC adK adV) p s m args c cX10_year 4 RX10 D kc A) {R : Int32 × St} {x1 : Int32} {x2 : Int32} {x3 : Int32} {σ : St} (hR : RTi 0 0 p l e r_X10_year s m args below meth c cX10_year tC kc ad D A Q .int R.1 R.2) {H : Heap} {locs : List Loc} {ls : Array Slot} (Z : Dy tC kc ad D A s.heap σ H locs) (hl : lv_has ls 4 [(0, .ref (ad 0)), (1, .int x1), (2, .int x2), (3, .int x3)]) (h : f_X10_year x1 x2 x3 σ = some R) : W p l e r_X10_year s m args below meth c H locs 0 0 Q (F0 m 0 ls []) := by
  have hx := C.1.1
  have hb := C.1.2.1
  unfold f_X10_year at h
  refine lv_iload_n hx hb dX10_year_0 rfl (lv_at hl 1 rfl) ?_
  refine lv_iconst (v := 0) hx hb dX10_year_1 (by decide) ?_
  refine lv_iconst (v := 2) hx hb dX10_year_2 (by decide) ?_
  refine g_callSi (eC_ok adK adV) C Z (k_X10_lies x1 0 2 σ) lk_X10_99 hl (by decide) rfl (Nat.le_of_ble_eq_true rfl) (rest := []) rfl dX10_year_3 (fun H locs Z => ?_)
  refine lv_if_eq (tgt := 27) hx hb dX10_year_6 (by decide) (fun c6 => ?_) (fun c6 => ?_)
  · have h := ip h c6
    refine lv_iconst (v := (-1)) hx hb dX10_year_27 (by decide) ?_
    obtain rfl := Option.some.inj h
    exact hR _ _ _ _ _ Z dX10_year_28 rfl
  · have h := im h c6
    refine lv_iload_n hx hb dX10_year_9 rfl (lv_at hl 2 rfl) ?_
    refine g_callSi (eC_ok adK adV) C Z (k_X8_isYear x2 σ) lk_X10_288 hl (by decide) rfl (Nat.le_of_ble_eq_true rfl) (rest := []) rfl dX10_year_10 (fun H locs Z => ?_)
    refine lv_if_eq (tgt := 27) hx hb dX10_year_13 (by decide) (fun c13 => ?_) (fun c13 => ?_)
    · have h := ip h c13
      refine lv_iconst (v := (-1)) hx hb dX10_year_27 (by decide) ?_
      obtain rfl := Option.some.inj h
      exact hR _ _ _ _ _ Z dX10_year_28 rfl
    · have h := im h c13
      refine lv_iload_n hx hb dX10_year_16 rfl (lv_at hl 3 rfl) ?_
      refine lv_iconst (v := 0) hx hb dX10_year_17 (by decide) ?_
      refine lv_ldcw (v := 9999999) hx hb C.1.2.2.2.1 (C.1.2.2.2.2 _ wD_X10_291) dX10_year_18 ?_
      refine g_callSi (eC_ok adK adV) C Z (k_X10_lies x3 0 9999999 σ) lk_X10_99 hl (by decide) rfl (Nat.le_of_ble_eq_true rfl) (rest := []) rfl dX10_year_21 (fun H locs Z => ?_)
      refine lv_if_ne (tgt := 29) hx hb dX10_year_24 (by decide) (fun c24 => ?_) (fun c24 => ?_)
      · have h := im h c24
        refine lv_aload_n hx hb dX10_year_29 rfl (lv_at hl 0 rfl) ?_
        refine rg_X10_74 C Z dX10_year_30 ?_
        refine lv_iload_n hx hb dX10_year_33 rfl (lv_at hl 1 rfl) ?_
        refine lv_iload_n hx hb dX10_year_34 rfl (lv_at hl 2 rfl) ?_
        refine lv_iload_n hx hb dX10_year_35 rfl (lv_at hl 3 rfl) ?_
        obtain ⟨u3, hu3, h⟩ := ob h
        refine g_callVi (eC_ok adK adV) C Z (k_X8_changeYear hu3) lk_X10_292 (by decide) rfl rfl hl (by decide) rfl (Nat.le_of_ble_eq_true rfl) (rest := []) rfl dX10_year_36 (fun H locs Z => ?_)
        obtain rfl := Option.some.inj h
        exact hR _ _ _ _ _ Z dX10_year_39 rfl
      · have h := ip h c24
        refine lv_iconst (v := (-1)) hx hb dX10_year_27 (by decide) ?_
        obtain rfl := Option.some.inj h
        exact hR _ _ _ _ _ Z dX10_year_28 rfl
theorem k_X10_year {l : Launch} {kc : Nat → ClassId} {ad : Nat → Nat} {D : va_G} {adK adV : Nat → Nat} {x1 : Int32} {x2 : Int32} {x3 : Int32} {σ : St} {R : Int32 × St} (h : f_X10_year x1 x2 x3 σ = some R) : KC (eC adK adV) tC kc ad D l yX10_year (.code yX10_year cX10_year 4 (some .int)) r_X10_year [.ref (ad 0), .int x1, .int x2, .int x3] (some (.int R.1)) σ R.2 := by
  refine g_enter (by decide) (Nat.le_of_ble_eq_true rfl) ?_
  intro p e s m args below meth c A hA C hr hlocks Z ls hl
  have hl : lv_has ls 4 [(0, .ref (ad 0)), (1, .int x1), (2, .int x2), (3, .int x3)] := hl
  exact w_X10_year_0 C (g_RTi C.1.1 C.1.2.1 hr hlocks hA)  Z hl h
def r_X10_stock : Room := { frames := 5, cells := 0, slots := 0, locals := 117 }
set_option maxRecDepth 20000 in
theorem w_X10_stock_0 {p : Program} {l : Launch} {e : Env} {s : State} {m : MethodId} {args : Array Value} {below : List Frame} {meth : Method} {c : Code} {Q : State → Prop} {D : va_G} {kc : Nat → ClassId} {ad : Nat → Nat} {A : Nat → Prop} {adK adV : Nat → Nat} (C : Cx (eC adK adV) p s m args c cX10_stock 3 RX10 D kc A) {R : Int64} {x1 : Int32} {x2 : Int32} {σ : St} (hR : RTl 0 0 p l e r_X10_stock s m args below meth c cX10_stock tC kc ad D A Q R σ) {H : Heap} {locs : List Loc} {ls : Array Slot} (Z : Dy tC kc ad D A s.heap σ H locs) (hl : lv_has ls 3 [(0, .ref (ad 0)), (1, .int x1), (2, .int x2)]) (h : f_X10_stock x1 x2 σ = some R) : W p l e r_X10_stock s m args below meth c H locs 0 0 Q (F0 m 0 ls []) := by
  have hx := C.1.1
  have hb := C.1.2.1
  unfold f_X10_stock at h
  refine lv_iload_n hx hb dX10_stock_0 rfl (lv_at hl 1 rfl) ?_
  refine lv_iconst (v := 0) hx hb dX10_stock_1 (by decide) ?_
  refine lv_iconst (v := 1) hx hb dX10_stock_2 (by decide) ?_
  refine g_callSi (eC_ok adK adV) C Z (k_X10_lies x1 0 1 σ) lk_X10_99 hl (by decide) rfl (Nat.le_of_ble_eq_true rfl) (rest := []) rfl dX10_stock_3 (fun H locs Z => ?_)
  refine lv_if_eq (tgt := 16) hx hb dX10_stock_6 (by decide) (fun c6 => ?_) (fun c6 => ?_)
  · have h := ip h c6
    refine lv_ldc2 (v := (-1)) hx hb C.1.2.2.2.1 (C.1.2.2.2.2 _ wDL_X10_183) dX10_stock_16 ?_
    obtain rfl := Option.some.inj h
    exact hR _ _ _ _ Z dX10_stock_19
  · have h := im h c6
    refine lv_iload_n hx hb dX10_stock_9 rfl (lv_at hl 2 rfl) ?_
    refine g_callSi (eC_ok adK adV) C Z (k_X8_isYear x2 σ) lk_X10_288 hl (by decide) rfl (Nat.le_of_ble_eq_true rfl) (rest := []) rfl dX10_stock_10 (fun H locs Z => ?_)
    refine lv_if_ne (tgt := 20) hx hb dX10_stock_13 (by decide) (fun c13 => ?_) (fun c13 => ?_)
    · have h := im h c13
      refine lv_aload_n hx hb dX10_stock_20 rfl (lv_at hl 0 rfl) ?_
      refine rg_X10_74 C Z dX10_stock_21 ?_
      refine lv_iload_n hx hb dX10_stock_24 rfl (lv_at hl 1 rfl) ?_
      refine lv_iload_n hx hb dX10_stock_25 rfl (lv_at hl 2 rfl) ?_
      refine lv_aload_n hx hb dX10_stock_26 rfl (lv_at hl 0 rfl) ?_
      refine rg_X10_74 C Z dX10_stock_27 ?_
      refine rg_X10_285 C Z dX10_stock_30 ?_
      refine lv_iload_n hx hb dX10_stock_33 rfl (lv_at hl 1 rfl) ?_
      obtain ⟨v5, hv5, h⟩ := ob h
      refine g_iald C Z iaC51 hv5 dX10_stock_34 ?_
      obtain ⟨v6, hv6, h⟩ := ob h
      refine g_callVl (eC_ok adK adV) C Z (k_X8_stockWith hv6) lk_X10_295 (by decide) rfl rfl hl (by decide) rfl (Nat.le_of_ble_eq_true rfl) (rest := []) rfl dX10_stock_35 (fun H locs Z => ?_)
      obtain rfl := Option.some.inj h
      exact hR _ _ _ _ Z dX10_stock_38
    · have h := ip h c13
      refine lv_ldc2 (v := (-1)) hx hb C.1.2.2.2.1 (C.1.2.2.2.2 _ wDL_X10_183) dX10_stock_16 ?_
      obtain rfl := Option.some.inj h
      exact hR _ _ _ _ Z dX10_stock_19
theorem k_X10_stock {l : Launch} {kc : Nat → ClassId} {ad : Nat → Nat} {D : va_G} {adK adV : Nat → Nat} {x1 : Int32} {x2 : Int32} {σ : St} {R : Int64} (h : f_X10_stock x1 x2 σ = some R) : KC (eC adK adV) tC kc ad D l yX10_stock (.code yX10_stock cX10_stock 3 (some .long)) r_X10_stock [.ref (ad 0), .int x1, .int x2] (some (.long R)) σ σ := by
  refine g_enter (by decide) (Nat.le_of_ble_eq_true rfl) ?_
  intro p e s m args below meth c A hA C hr hlocks Z ls hl
  have hl : lv_has ls 3 [(0, .ref (ad 0)), (1, .int x1), (2, .int x2)] := hl
  exact w_X10_stock_0 C (g_RTl C.1.1 C.1.2.1 hr hlocks hA)  Z hl h
def r_X10_fails : Room := { frames := 5, cells := 0, slots := 0, locals := 115 }
set_option maxRecDepth 20000 in
theorem w_X10_fails_0 {p : Program} {l : Launch} {e : Env} {s : State} {m : MethodId} {args : Array Value} {below : List Frame} {meth : Method} {c : Code} {Q : State → Prop} {D : va_G} {kc : Nat → ClassId} {ad : Nat → Nat} {A : Nat → Prop} {adK adV : Nat → Nat} (C : Cx (eC adK adV) p s m args c cX10_fails 2 RX10 D kc A) {R : Int32} {x1 : Int32} {σ : St} (hR : RTi 0 0 p l e r_X10_fails s m args below meth c cX10_fails tC kc ad D A Q .int R σ) {H : Heap} {locs : List Loc} {ls : Array Slot} (Z : Dy tC kc ad D A s.heap σ H locs) (hl : lv_has ls 2 [(0, .ref (ad 0)), (1, .int x1)]) (h : f_X10_fails x1 σ = some R) : W p l e r_X10_fails s m args below meth c H locs 0 0 Q (F0 m 0 ls []) := by
  have hx := C.1.1
  have hb := C.1.2.1
  unfold f_X10_fails at h
  refine lv_iload_n hx hb dX10_fails_0 rfl (lv_at hl 1 rfl) ?_
  refine lv_iconst (v := 0) hx hb dX10_fails_1 (by decide) ?_
  refine lv_iconst (v := 1) hx hb dX10_fails_2 (by decide) ?_
  refine g_callSi (eC_ok adK adV) C Z (k_X10_lies x1 0 1 σ) lk_X10_99 hl (by decide) rfl (Nat.le_of_ble_eq_true rfl) (rest := []) rfl dX10_fails_3 (fun H locs Z => ?_)
  refine lv_if_ne (tgt := 11) hx hb dX10_fails_6 (by decide) (fun c6 => ?_) (fun c6 => ?_)
  · have h := im h c6
    refine lv_aload_n hx hb dX10_fails_11 rfl (lv_at hl 0 rfl) ?_
    refine rg_X10_74 C Z dX10_fails_12 ?_
    refine lv_iload_n hx hb dX10_fails_15 rfl (lv_at hl 1 rfl) ?_
    obtain ⟨v3, hv3, h⟩ := ob h
    refine g_callVi (eC_ok adK adV) C Z (k_X8_failsIn hv3) lk_X10_299 (by decide) rfl rfl hl (by decide) rfl (Nat.le_of_ble_eq_true rfl) (rest := []) rfl dX10_fails_16 (fun H locs Z => ?_)
    obtain rfl := Option.some.inj h
    exact hR _ _ _ _ _ Z dX10_fails_19 rfl
  · have h := ip h c6
    refine lv_iconst (v := (-1)) hx hb dX10_fails_9 (by decide) ?_
    obtain rfl := Option.some.inj h
    exact hR _ _ _ _ _ Z dX10_fails_10 rfl
theorem k_X10_fails {l : Launch} {kc : Nat → ClassId} {ad : Nat → Nat} {D : va_G} {adK adV : Nat → Nat} {x1 : Int32} {σ : St} {R : Int32} (h : f_X10_fails x1 σ = some R) : KC (eC adK adV) tC kc ad D l yX10_fails (.code yX10_fails cX10_fails 2 (some .int)) r_X10_fails [.ref (ad 0), .int x1] (some (.int R)) σ σ := by
  refine g_enter (by decide) (Nat.le_of_ble_eq_true rfl) ?_
  intro p e s m args below meth c A hA C hr hlocks Z ls hl
  have hl : lv_has ls 2 [(0, .ref (ad 0)), (1, .int x1)] := hl
  exact w_X10_fails_0 C (g_RTi C.1.1 C.1.2.1 hr hlocks hA)  Z hl h
def r_X10_agree : Room := { frames := 7, cells := 0, slots := 0, locals := 174 }
set_option maxRecDepth 20000 in
theorem w_X10_agree_0 {p : Program} {l : Launch} {e : Env} {s : State} {m : MethodId} {args : Array Value} {below : List Frame} {meth : Method} {c : Code} {Q : State → Prop} {D : va_G} {kc : Nat → ClassId} {ad : Nat → Nat} {A : Nat → Prop} {adK adV : Nat → Nat} (C : Cx (eC adK adV) p s m args c cX10_agree 5 RX10 D kc A) {R : Int32} {x1 : Int32} {x2 : Int32} {σ : St} (hR : RTi 0 0 p l e r_X10_agree s m args below meth c cX10_agree tC kc ad D A Q .int R σ) {H : Heap} {locs : List Loc} {ls : Array Slot} (Z : Dy tC kc ad D A s.heap σ H locs) (hl : lv_has ls 5 [(0, .ref (ad 0)), (1, .int x1), (2, .int x2)]) (h : f_X10_agree x1 x2 σ = some R) : W p l e r_X10_agree s m args below meth c H locs 0 0 Q (F0 m 0 ls []) := by
  have hx := C.1.1
  have hb := C.1.2.1
  unfold f_X10_agree at h
  refine lv_iload_n hx hb dX10_agree_0 rfl (lv_at hl 1 rfl) ?_
  refine lv_iconst (v := 0) hx hb dX10_agree_1 (by decide) ?_
  refine lv_iconst (v := 1) hx hb dX10_agree_2 (by decide) ?_
  refine g_callSi (eC_ok adK adV) C Z (k_X10_lies x1 0 1 σ) lk_X10_99 hl (by decide) rfl (Nat.le_of_ble_eq_true rfl) (rest := []) rfl dX10_agree_3 (fun H locs Z => ?_)
  refine lv_if_eq (tgt := 16) hx hb dX10_agree_6 (by decide) (fun c6 => ?_) (fun c6 => ?_)
  · have h := ip h c6
    refine lv_iconst (v := (-1)) hx hb dX10_agree_16 (by decide) ?_
    obtain rfl := Option.some.inj h
    exact hR _ _ _ _ _ Z dX10_agree_17 rfl
  · have h := im h c6
    refine lv_iload_n hx hb dX10_agree_9 rfl (lv_at hl 2 rfl) ?_
    refine g_callSi (eC_ok adK adV) C Z (k_X8_isYear x2 σ) lk_X10_288 hl (by decide) rfl (Nat.le_of_ble_eq_true rfl) (rest := []) rfl dX10_agree_10 (fun H locs Z => ?_)
    refine lv_if_ne (tgt := 18) hx hb dX10_agree_13 (by decide) (fun c13 => ?_) (fun c13 => ?_)
    · have h := im h c13
      refine lv_aload_n hx hb dX10_agree_18 rfl (lv_at hl 0 rfl) ?_
      refine rg_X10_74 C Z dX10_agree_19 ?_
      refine lv_iconst (v := 1) hx hb dX10_agree_22 (by decide) ?_
      refine lv_iload_n hx hb dX10_agree_23 rfl (lv_at hl 1 rfl) ?_
      refine lv_isub hx hb dX10_agree_24 ?_
      refine lv_iload_n hx hb dX10_agree_25 rfl (lv_at hl 2 rfl) ?_
      refine lv_aload_n hx hb dX10_agree_26 rfl (lv_at hl 0 rfl) ?_
      refine rg_X10_74 C Z dX10_agree_27 ?_
      refine rg_X10_285 C Z dX10_agree_30 ?_
      refine lv_iconst (v := 1) hx hb dX10_agree_33 (by decide) ?_
      refine lv_iload_n hx hb dX10_agree_34 rfl (lv_at hl 1 rfl) ?_
      refine lv_isub hx hb dX10_agree_35 ?_
      obtain ⟨v7, hv7, h⟩ := ob h
      refine g_iald C Z iaC51 hv7 dX10_agree_36 ?_
      obtain ⟨v8, hv8, h⟩ := ob h
      refine g_callVl (eC_ok adK adV) C Z (k_X8_stockWith hv8) lk_X10_295 (by decide) rfl rfl hl (by decide) rfl (Nat.le_of_ble_eq_true rfl) (rest := []) rfl dX10_agree_37 (fun H locs Z => ?_)
      refine lv_lstore_n (lv' := [(3, .long v8), (0, .ref (ad 0)), (1, .int x1), (2, .int x2)]) hx hb dX10_agree_40 rfl hl (by decide) rfl (fun ls hl => ?_)
      refine lv_aload_n hx hb dX10_agree_41 rfl (lv_at hl 1 rfl) ?_
      refine rg_X10_74 C Z dX10_agree_42 ?_
      refine lv_iload_n hx hb dX10_agree_45 rfl (lv_at hl 2 rfl) ?_
      refine lv_iload_n hx hb dX10_agree_46 rfl (lv_at hl 3 rfl) ?_
      refine lv_lload_n hx hb dX10_agree_47 rfl (lv_at hl 0 rfl) ?_
      obtain ⟨v9, hv9, h⟩ := ob h
      refine g_callVi (eC_ok adK adV) C Z (k_X8_nearestLoss hv9) lk_X10_302 (by decide) rfl rfl hl (by decide) rfl (Nat.le_of_ble_eq_true rfl) (rest := []) rfl dX10_agree_48 (fun H locs Z => ?_)
      obtain rfl := Option.some.inj h
      exact hR _ _ _ _ _ Z dX10_agree_51 rfl
    · have h := ip h c13
      refine lv_iconst (v := (-1)) hx hb dX10_agree_16 (by decide) ?_
      obtain rfl := Option.some.inj h
      exact hR _ _ _ _ _ Z dX10_agree_17 rfl
theorem k_X10_agree {l : Launch} {kc : Nat → ClassId} {ad : Nat → Nat} {D : va_G} {adK adV : Nat → Nat} {x1 : Int32} {x2 : Int32} {σ : St} {R : Int32} (h : f_X10_agree x1 x2 σ = some R) : KC (eC adK adV) tC kc ad D l yX10_agree (.code yX10_agree cX10_agree 5 (some .int)) r_X10_agree [.ref (ad 0), .int x1, .int x2] (some (.int R)) σ σ := by
  refine g_enter (by decide) (Nat.le_of_ble_eq_true rfl) ?_
  intro p e s m args below meth c A hA C hr hlocks Z ls hl
  have hl : lv_has ls 5 [(0, .ref (ad 0)), (1, .int x1), (2, .int x2)] := hl
  exact w_X10_agree_0 C (g_RTi C.1.1 C.1.2.1 hr hlocks hA)  Z hl h
def r_X10_age : Room := { frames := 1, cells := 0, slots := 0, locals := 22 }
set_option maxRecDepth 20000 in
theorem w_X10_age_0 {p : Program} {l : Launch} {e : Env} {s : State} {m : MethodId} {args : Array Value} {below : List Frame} {meth : Method} {c : Code} {Q : State → Prop} {D : va_G} {kc : Nat → ClassId} {ad : Nat → Nat} {A : Nat → Prop} {adK adV : Nat → Nat} (C : Cx (eC adK adV) p s m args c cX10_age 5 RX10 D kc A) {R : Int32 × St} {x1 : Int32} {x2 : Int32} {x3 : Int32} {x4 : Int32} {σ : St} (hR : RTi 0 0 p l e r_X10_age s m args below meth c cX10_age tC kc ad D A Q .boolean R.1 R.2) {H : Heap} {locs : List Loc} {ls : Array Slot} (Z : Dy tC kc ad D A s.heap σ H locs) (hl : lv_has ls 5 [(0, .ref (ad 0)), (1, .int x1), (2, .int x2), (3, .int x3), (4, .int x4)]) (h : f_X10_age x1 x2 x3 x4 σ = some R) : W p l e r_X10_age s m args below meth c H locs 0 0 Q (F0 m 0 ls []) := by
  have hx := C.1.1
  have hb := C.1.2.1
  unfold f_X10_age at h
  refine lv_iload_n hx hb dX10_age_0 rfl (lv_at hl 1 rfl) ?_
  refine lv_iconst (v := 0) hx hb dX10_age_1 (by decide) ?_
  refine lv_bipush (v := 7) hx hb dX10_age_2 (by decide) ?_
  refine g_callSi (eC_ok adK adV) C Z (k_X10_lies x1 0 7 σ) lk_X10_99 hl (by decide) rfl (Nat.le_of_ble_eq_true rfl) (rest := []) rfl dX10_age_4 (fun H locs Z => ?_)
  refine lv_if_eq (tgt := 44) hx hb dX10_age_7 (by decide) (fun c7 => ?_) (fun c7 => ?_)
  · have h := ip h c7
    refine lv_iconst (v := 0) hx hb dX10_age_44 (by decide) ?_
    obtain rfl := Option.some.inj h
    exact hR _ _ _ _ _ Z dX10_age_45 rfl
  · have h := im h c7
    refine lv_iload_n hx hb dX10_age_10 rfl (lv_at hl 2 rfl) ?_
    refine lv_iconst (v := 0) hx hb dX10_age_11 (by decide) ?_
    refine lv_ldcw (v := 999999) hx hb C.1.2.2.2.1 (C.1.2.2.2.2 _ wD_X10_306) dX10_age_12 ?_
    refine g_callSi (eC_ok adK adV) C Z (k_X10_lies x2 0 999999 σ) lk_X10_99 hl (by decide) rfl (Nat.le_of_ble_eq_true rfl) (rest := []) rfl dX10_age_15 (fun H locs Z => ?_)
    refine lv_if_eq (tgt := 44) hx hb dX10_age_18 (by decide) (fun c18 => ?_) (fun c18 => ?_)
    · have h := ip h c18
      refine lv_iconst (v := 0) hx hb dX10_age_44 (by decide) ?_
      obtain rfl := Option.some.inj h
      exact hR _ _ _ _ _ Z dX10_age_45 rfl
    · have h := im h c18
      refine lv_iload_n hx hb dX10_age_21 rfl (lv_at hl 3 rfl) ?_
      refine lv_iconst (v := 0) hx hb dX10_age_22 (by decide) ?_
      refine lv_sipush (v := 199) hx hb dX10_age_23 (by decide) ?_
      refine g_callSi (eC_ok adK adV) C Z (k_X10_lies x3 0 199 σ) lk_X10_99 hl (by decide) rfl (Nat.le_of_ble_eq_true rfl) (rest := []) rfl dX10_age_26 (fun H locs Z => ?_)
      refine lv_if_eq (tgt := 44) hx hb dX10_age_29 (by decide) (fun c29 => ?_) (fun c29 => ?_)
      · have h := ip h c29
        refine lv_iconst (v := 0) hx hb dX10_age_44 (by decide) ?_
        obtain rfl := Option.some.inj h
        exact hR _ _ _ _ _ Z dX10_age_45 rfl
      · have h := im h c29
        refine lv_iload hx hb dX10_age_32 (lv_at hl 4 rfl) ?_
        refine lv_iconst (v := 0) hx hb dX10_age_34 (by decide) ?_
        refine lv_sipush (v := 999) hx hb dX10_age_35 (by decide) ?_
        refine g_callSi (eC_ok adK adV) C Z (k_X10_lies x4 0 999 σ) lk_X10_99 hl (by decide) rfl (Nat.le_of_ble_eq_true rfl) (rest := []) rfl dX10_age_38 (fun H locs Z => ?_)
        refine lv_if_ne (tgt := 46) hx hb dX10_age_41 (by decide) (fun c41 => ?_) (fun c41 => ?_)
        · have h := im h c41
          refine lv_aload_n hx hb dX10_age_46 rfl (lv_at hl 0 rfl) ?_
          refine rg_X10_74 C Z dX10_age_47 ?_
          refine rg_X10_307 C Z dX10_age_50 ?_
          refine lv_iload_n hx hb dX10_age_53 rfl (lv_at hl 1 rfl) ?_
          refine lv_iload_n hx hb dX10_age_54 rfl (lv_at hl 2 rfl) ?_
          obtain ⟨σ7, hσ7, h⟩ := ob h
          refine g_iast C Z iaC53 hσ7 dX10_age_55 (fun H locs Z => ?_)
          refine lv_aload_n hx hb dX10_age_56 rfl (lv_at hl 0 rfl) ?_
          refine rg_X10_74 C Z dX10_age_57 ?_
          refine rg_X10_310 C Z dX10_age_60 ?_
          refine lv_iload_n hx hb dX10_age_63 rfl (lv_at hl 1 rfl) ?_
          refine lv_iload_n hx hb dX10_age_64 rfl (lv_at hl 3 rfl) ?_
          obtain ⟨σ8, hσ8, h⟩ := ob h
          refine g_iast C Z iaC54 hσ8 dX10_age_65 (fun H locs Z => ?_)
          refine lv_aload_n hx hb dX10_age_66 rfl (lv_at hl 0 rfl) ?_
          refine rg_X10_74 C Z dX10_age_67 ?_
          refine rg_X10_313 C Z dX10_age_70 ?_
          refine lv_iload_n hx hb dX10_age_73 rfl (lv_at hl 1 rfl) ?_
          refine lv_iload hx hb dX10_age_74 (lv_at hl 4 rfl) ?_
          obtain ⟨σ9, hσ9, h⟩ := ob h
          refine g_iast C Z iaC55 hσ9 dX10_age_76 (fun H locs Z => ?_)
          refine lv_iconst (v := 1) hx hb dX10_age_77 (by decide) ?_
          obtain rfl := Option.some.inj h
          exact hR _ _ _ _ _ Z dX10_age_78 rfl
        · have h := ip h c41
          refine lv_iconst (v := 0) hx hb dX10_age_44 (by decide) ?_
          obtain rfl := Option.some.inj h
          exact hR _ _ _ _ _ Z dX10_age_45 rfl
theorem k_X10_age {l : Launch} {kc : Nat → ClassId} {ad : Nat → Nat} {D : va_G} {adK adV : Nat → Nat} {x1 : Int32} {x2 : Int32} {x3 : Int32} {x4 : Int32} {σ : St} {R : Int32 × St} (h : f_X10_age x1 x2 x3 x4 σ = some R) : KC (eC adK adV) tC kc ad D l yX10_age (.code yX10_age cX10_age 5 (some .boolean)) r_X10_age [.ref (ad 0), .int x1, .int x2, .int x3, .int x4] (some (.int R.1)) σ R.2 := by
  refine g_enter (by decide) (Nat.le_of_ble_eq_true rfl) ?_
  intro p e s m args below meth c A hA C hr hlocks Z ls hl
  have hl : lv_has ls 5 [(0, .ref (ad 0)), (1, .int x1), (2, .int x2), (3, .int x3), (4, .int x4)] := hl
  exact w_X10_age_0 C (g_RTi C.1.1 C.1.2.1 hr hlocks hA)  Z hl h
def r_X10_canFish : Room := { frames := 1, cells := 0, slots := 0, locals := 22 }
set_option maxRecDepth 20000 in
theorem w_X10_canFish_48 {p : Program} {l : Launch} {e : Env} {s : State} {m : MethodId} {args : Array Value} {below : List Frame} {meth : Method} {c : Code} {Q : State → Prop} {D : va_G} {kc : Nat → ClassId} {ad : Nat → Nat} {A : Nat → Prop} {adK adV : Nat → Nat} (C : Cx (eC adK adV) p s m args c cX10_canFish 4 RX10 D kc A) {R : Int32} {σ : St} (hR : RTi 0 0 p l e r_X10_canFish s m args below meth c cX10_canFish tC kc ad D A Q .boolean R σ) {H : Heap} {locs : List Loc} {ls : Array Slot} (Z : Dy tC kc ad D A s.heap σ H locs) (hl : lv_has ls 4 []) (h : f_X10_canFish_48 = R) : W p l e r_X10_canFish s m args below meth c H locs 0 0 Q (F0 m 48 ls []) := by
  have hx := C.1.1
  have hb := C.1.2.1
  unfold f_X10_canFish_48 at h
  refine lv_iconst (v := 0) hx hb dX10_canFish_48 (by decide) ?_
  subst h
  exact hR _ _ _ _ _ Z dX10_canFish_49 rfl
set_option maxRecDepth 20000 in
theorem w_X10_canFish_0 {p : Program} {l : Launch} {e : Env} {s : State} {m : MethodId} {args : Array Value} {below : List Frame} {meth : Method} {c : Code} {Q : State → Prop} {D : va_G} {kc : Nat → ClassId} {ad : Nat → Nat} {A : Nat → Prop} {adK adV : Nat → Nat} (C : Cx (eC adK adV) p s m args c cX10_canFish 4 RX10 D kc A) {R : Int32} {x0 : Int32} {x1 : Int32} {x2 : Int32} {x3 : Int32} {σ : St} (hR : RTi 0 0 p l e r_X10_canFish s m args below meth c cX10_canFish tC kc ad D A Q .boolean R σ) {H : Heap} {locs : List Loc} {ls : Array Slot} (Z : Dy tC kc ad D A s.heap σ H locs) (hl : lv_has ls 4 [(0, .int x0), (1, .int x1), (2, .int x2), (3, .int x3)]) (h : f_X10_canFish x0 x1 x2 x3 = R) : W p l e r_X10_canFish s m args below meth c H locs 0 0 Q (F0 m 0 ls []) := by
  have hx := C.1.1
  have hb := C.1.2.1
  unfold f_X10_canFish at h
  refine lv_iload_n hx hb dX10_canFish_0 rfl (lv_at hl 0 rfl) ?_
  refine lv_iconst (v := 0) hx hb dX10_canFish_1 (by decide) ?_
  refine lv_sipush (v := 199) hx hb dX10_canFish_2 (by decide) ?_
  refine g_callSi (eC_ok adK adV) C Z (k_X10_lies x0 0 199 σ) lk_X10_99 hl (by decide) rfl (Nat.le_of_ble_eq_true rfl) (rest := []) rfl dX10_canFish_5 (fun H locs Z => ?_)
  refine lv_if_eq (tgt := 48) hx hb dX10_canFish_8 (by decide) (fun c8 => ?_) (fun c8 => ?_)
  · have h := ip h c8
    exact w_X10_canFish_48 C hR Z (lv_sub hl [] rfl) h
  · have h := im h c8
    refine lv_iload_n hx hb dX10_canFish_11 rfl (lv_at hl 1 rfl) ?_
    refine lv_iconst (v := 0) hx hb dX10_canFish_12 (by decide) ?_
    refine lv_sipush (v := 1000) hx hb dX10_canFish_13 (by decide) ?_
    refine g_callSi (eC_ok adK adV) C Z (k_X10_lies x1 0 1000 σ) lk_X10_99 hl (by decide) rfl (Nat.le_of_ble_eq_true rfl) (rest := []) rfl dX10_canFish_16 (fun H locs Z => ?_)
    refine lv_if_eq (tgt := 48) hx hb dX10_canFish_19 (by decide) (fun c19 => ?_) (fun c19 => ?_)
    · have h := ip h c19
      exact w_X10_canFish_48 C hR Z (lv_sub hl [] rfl) h
    · have h := im h c19
      refine lv_iload_n hx hb dX10_canFish_22 rfl (lv_at hl 2 rfl) ?_
      refine lv_iconst (v := 0) hx hb dX10_canFish_23 (by decide) ?_
      refine lv_sipush (v := 1000) hx hb dX10_canFish_24 (by decide) ?_
      refine g_callSi (eC_ok adK adV) C Z (k_X10_lies x2 0 1000 σ) lk_X10_99 hl (by decide) rfl (Nat.le_of_ble_eq_true rfl) (rest := []) rfl dX10_canFish_27 (fun H locs Z => ?_)
      refine lv_if_eq (tgt := 48) hx hb dX10_canFish_30 (by decide) (fun c30 => ?_) (fun c30 => ?_)
      · have h := ip h c30
        exact w_X10_canFish_48 C hR Z (lv_sub hl [] rfl) h
      · have h := im h c30
        refine lv_iload_n hx hb dX10_canFish_33 rfl (lv_at hl 3 rfl) ?_
        refine lv_iconst (v := 0) hx hb dX10_canFish_34 (by decide) ?_
        refine lv_ldcw (v := 999999) hx hb C.1.2.2.2.1 (C.1.2.2.2.2 _ wD_X10_306) dX10_canFish_35 ?_
        refine g_callSi (eC_ok adK adV) C Z (k_X10_lies x3 0 999999 σ) lk_X10_99 hl (by decide) rfl (Nat.le_of_ble_eq_true rfl) (rest := []) rfl dX10_canFish_38 (fun H locs Z => ?_)
        refine lv_if_eq (tgt := 48) hx hb dX10_canFish_41 (by decide) (fun c41 => ?_) (fun c41 => ?_)
        · have h := ip h c41
          exact w_X10_canFish_48 C hR Z (lv_sub hl [] rfl) h
        · have h := im h c41
          refine lv_iconst (v := 1) hx hb dX10_canFish_44 (by decide) ?_
          refine lv_goto (tgt := 49) hx hb dX10_canFish_45 (by decide) ?_
          subst h
          exact hR _ _ _ _ _ Z dX10_canFish_49 rfl
theorem k_X10_canFish {l : Launch} {kc : Nat → ClassId} {ad : Nat → Nat} {D : va_G} {adK adV : Nat → Nat} (x0 : Int32) (x1 : Int32) (x2 : Int32) (x3 : Int32) (σ : St) : KC (eC adK adV) tC kc ad D l yX10_canFish (.code yX10_canFish cX10_canFish 4 (some .boolean)) r_X10_canFish [.int x0, .int x1, .int x2, .int x3] (some (.int (f_X10_canFish x0 x1 x2 x3))) σ σ := by
  refine g_enter (by decide) (Nat.le_of_ble_eq_true rfl) ?_
  intro p e s m args below meth c A hA C hr hlocks Z ls hl
  have hl : lv_has ls 4 [(0, .int x0), (1, .int x1), (2, .int x2), (3, .int x3)] := hl
  exact w_X10_canFish_0 C (g_RTi C.1.1 C.1.2.1 hr hlocks hA)  Z hl rfl
def r_X10_landed : Room := { frames := 2, cells := 0, slots := 0, locals := 62 }
set_option maxRecDepth 20000 in
theorem w_X10_landed_0 {p : Program} {l : Launch} {e : Env} {s : State} {m : MethodId} {args : Array Value} {below : List Frame} {meth : Method} {c : Code} {Q : State → Prop} {D : va_G} {kc : Nat → ClassId} {ad : Nat → Nat} {A : Nat → Prop} {adK adV : Nat → Nat} (C : Cx (eC adK adV) p s m args c cX10_landed 6 RX10 D kc A) {R : Int64 × St} {x1 : Int32} {x2 : Int32} {x3 : Int32} {x4 : Int32} {x5 : Int32} {σ : St} (hR : RTl 0 0 p l e r_X10_landed s m args below meth c cX10_landed tC kc ad D A Q R.1 R.2) {H : Heap} {locs : List Loc} {ls : Array Slot} (Z : Dy tC kc ad D A s.heap σ H locs) (hl : lv_has ls 6 [(0, .ref (ad 0)), (1, .int x1), (2, .int x2), (3, .int x3), (4, .int x4), (5, .int x5)]) (h : f_X10_landed x1 x2 x3 x4 x5 σ = some R) : W p l e r_X10_landed s m args below meth c H locs 0 0 Q (F0 m 0 ls []) := by
  have hx := C.1.1
  have hb := C.1.2.1
  unfold f_X10_landed at h
  refine lv_iload_n hx hb dX10_landed_0 rfl (lv_at hl 1 rfl) ?_
  refine lv_iconst (v := 1) hx hb dX10_landed_1 (by decide) ?_
  refine lv_bipush (v := 30) hx hb dX10_landed_2 (by decide) ?_
  refine g_callSi (eC_ok adK adV) C Z (k_X10_lies x1 1 30 σ) lk_X10_99 hl (by decide) rfl (Nat.le_of_ble_eq_true rfl) (rest := []) rfl dX10_landed_4 (fun H locs Z => ?_)
  refine lv_if_eq (tgt := 22) hx hb dX10_landed_7 (by decide) (fun c7 => ?_) (fun c7 => ?_)
  · have h := ip h c7
    refine lv_ldc2 (v := (-1)) hx hb C.1.2.2.2.1 (C.1.2.2.2.2 _ wDL_X10_183) dX10_landed_22 ?_
    obtain rfl := Option.some.inj h
    exact hR _ _ _ _ Z dX10_landed_25
  · have h := im h c7
    refine lv_iload_n hx hb dX10_landed_10 rfl (lv_at hl 2 rfl) ?_
    refine lv_iload_n hx hb dX10_landed_11 rfl (lv_at hl 3 rfl) ?_
    refine lv_iload hx hb dX10_landed_12 (lv_at hl 4 rfl) ?_
    refine lv_iload hx hb dX10_landed_14 (lv_at hl 5 rfl) ?_
    refine g_callSi (eC_ok adK adV) C Z (k_X10_canFish x2 x3 x4 x5 σ) lk_X10_316 hl (by decide) rfl (Nat.le_of_ble_eq_true rfl) (rest := []) rfl dX10_landed_16 (fun H locs Z => ?_)
    refine lv_if_ne (tgt := 26) hx hb dX10_landed_19 (by decide) (fun c19 => ?_) (fun c19 => ?_)
    · have h := im h c19
      refine lv_aload_n hx hb dX10_landed_26 rfl (lv_at hl 0 rfl) ?_
      refine rg_X10_74 C Z dX10_landed_27 ?_
      refine lv_iload_n hx hb dX10_landed_30 rfl (lv_at hl 1 rfl) ?_
      refine lv_iload_n hx hb dX10_landed_31 rfl (lv_at hl 2 rfl) ?_
      refine lv_iload_n hx hb dX10_landed_32 rfl (lv_at hl 3 rfl) ?_
      refine lv_iload hx hb dX10_landed_33 (lv_at hl 4 rfl) ?_
      refine lv_iload hx hb dX10_landed_35 (lv_at hl 5 rfl) ?_
      obtain ⟨u3, hu3, h⟩ := ob h
      refine g_callVl (eC_ok adK adV) C Z (k_X8_landedBy hu3) lk_X10_319 (by decide) rfl rfl hl (by decide) rfl (Nat.le_of_ble_eq_true rfl) (rest := []) rfl dX10_landed_37 (fun H locs Z => ?_)
      obtain rfl := Option.some.inj h
      exact hR _ _ _ _ Z dX10_landed_40
    · have h := ip h c19
      refine lv_ldc2 (v := (-1)) hx hb C.1.2.2.2.1 (C.1.2.2.2.2 _ wDL_X10_183) dX10_landed_22 ?_
      obtain rfl := Option.some.inj h
      exact hR _ _ _ _ Z dX10_landed_25
theorem k_X10_landed {l : Launch} {kc : Nat → ClassId} {ad : Nat → Nat} {D : va_G} {adK adV : Nat → Nat} {x1 : Int32} {x2 : Int32} {x3 : Int32} {x4 : Int32} {x5 : Int32} {σ : St} {R : Int64 × St} (h : f_X10_landed x1 x2 x3 x4 x5 σ = some R) : KC (eC adK adV) tC kc ad D l yX10_landed (.code yX10_landed cX10_landed 6 (some .long)) r_X10_landed [.ref (ad 0), .int x1, .int x2, .int x3, .int x4, .int x5] (some (.long R.1)) σ R.2 := by
  refine g_enter (by decide) (Nat.le_of_ble_eq_true rfl) ?_
  intro p e s m args below meth c A hA C hr hlocks Z ls hl
  have hl : lv_has ls 6 [(0, .ref (ad 0)), (1, .int x1), (2, .int x2), (3, .int x3), (4, .int x4), (5, .int x5)] := hl
  exact w_X10_landed_0 C (g_RTl C.1.1 C.1.2.1 hr hlocks hA)  Z hl h
def r_X10_pays : Room := { frames := 2, cells := 0, slots := 0, locals := 62 }
set_option maxRecDepth 20000 in
theorem w_X10_pays_0 {p : Program} {l : Launch} {e : Env} {s : State} {m : MethodId} {args : Array Value} {below : List Frame} {meth : Method} {c : Code} {Q : State → Prop} {D : va_G} {kc : Nat → ClassId} {ad : Nat → Nat} {A : Nat → Prop} {adK adV : Nat → Nat} (C : Cx (eC adK adV) p s m args c cX10_pays 6 RX10 D kc A) {R : Int32 × St} {x1 : Int32} {x2 : Int32} {x3 : Int32} {x4 : Int32} {x5 : Int32} {σ : St} (hR : RTi 0 0 p l e r_X10_pays s m args below meth c cX10_pays tC kc ad D A Q .int R.1 R.2) {H : Heap} {locs : List Loc} {ls : Array Slot} (Z : Dy tC kc ad D A s.heap σ H locs) (hl : lv_has ls 6 [(0, .ref (ad 0)), (1, .int x1), (2, .int x2), (3, .int x3), (4, .int x4), (5, .int x5)]) (h : f_X10_pays x1 x2 x3 x4 x5 σ = some R) : W p l e r_X10_pays s m args below meth c H locs 0 0 Q (F0 m 0 ls []) := by
  have hx := C.1.1
  have hb := C.1.2.1
  unfold f_X10_pays at h
  refine lv_iload_n hx hb dX10_pays_0 rfl (lv_at hl 1 rfl) ?_
  refine lv_iload_n hx hb dX10_pays_1 rfl (lv_at hl 3 rfl) ?_
  refine lv_iload hx hb dX10_pays_2 (lv_at hl 4 rfl) ?_
  refine lv_iload hx hb dX10_pays_4 (lv_at hl 5 rfl) ?_
  refine g_callSi (eC_ok adK adV) C Z (k_X10_canFish x1 x3 x4 x5 σ) lk_X10_316 hl (by decide) rfl (Nat.le_of_ble_eq_true rfl) (rest := []) rfl dX10_pays_6 (fun H locs Z => ?_)
  refine lv_if_eq (tgt := 24) hx hb dX10_pays_9 (by decide) (fun c9 => ?_) (fun c9 => ?_)
  · have h := ip h c9
    refine lv_iconst (v := (-1)) hx hb dX10_pays_24 (by decide) ?_
    obtain rfl := Option.some.inj h
    exact hR _ _ _ _ _ Z dX10_pays_25 rfl
  · have h := im h c9
    refine lv_iload_n hx hb dX10_pays_12 rfl (lv_at hl 2 rfl) ?_
    refine lv_iload_n hx hb dX10_pays_13 rfl (lv_at hl 3 rfl) ?_
    refine lv_iload hx hb dX10_pays_14 (lv_at hl 4 rfl) ?_
    refine lv_iload hx hb dX10_pays_16 (lv_at hl 5 rfl) ?_
    refine g_callSi (eC_ok adK adV) C Z (k_X10_canFish x2 x3 x4 x5 σ) lk_X10_316 hl (by decide) rfl (Nat.le_of_ble_eq_true rfl) (rest := []) rfl dX10_pays_18 (fun H locs Z => ?_)
    refine lv_if_ne (tgt := 26) hx hb dX10_pays_21 (by decide) (fun c21 => ?_) (fun c21 => ?_)
    · have h := im h c21
      refine lv_aload_n hx hb dX10_pays_26 rfl (lv_at hl 0 rfl) ?_
      refine rg_X10_74 C Z dX10_pays_27 ?_
      refine lv_iload_n hx hb dX10_pays_30 rfl (lv_at hl 1 rfl) ?_
      refine lv_iload_n hx hb dX10_pays_31 rfl (lv_at hl 2 rfl) ?_
      refine lv_iload_n hx hb dX10_pays_32 rfl (lv_at hl 3 rfl) ?_
      refine lv_iload hx hb dX10_pays_33 (lv_at hl 4 rfl) ?_
      refine lv_iload hx hb dX10_pays_35 (lv_at hl 5 rfl) ?_
      obtain ⟨u3, hu3, h⟩ := ob h
      refine g_callVi (eC_ok adK adV) C Z (k_X8_paysFrom hu3) lk_X10_322 (by decide) rfl rfl hl (by decide) rfl (Nat.le_of_ble_eq_true rfl) (rest := []) rfl dX10_pays_37 (fun H locs Z => ?_)
      obtain rfl := Option.some.inj h
      exact hR _ _ _ _ _ Z dX10_pays_40 rfl
    · have h := ip h c21
      refine lv_iconst (v := (-1)) hx hb dX10_pays_24 (by decide) ?_
      obtain rfl := Option.some.inj h
      exact hR _ _ _ _ _ Z dX10_pays_25 rfl
theorem k_X10_pays {l : Launch} {kc : Nat → ClassId} {ad : Nat → Nat} {D : va_G} {adK adV : Nat → Nat} {x1 : Int32} {x2 : Int32} {x3 : Int32} {x4 : Int32} {x5 : Int32} {σ : St} {R : Int32 × St} (h : f_X10_pays x1 x2 x3 x4 x5 σ = some R) : KC (eC adK adV) tC kc ad D l yX10_pays (.code yX10_pays cX10_pays 6 (some .int)) r_X10_pays [.ref (ad 0), .int x1, .int x2, .int x3, .int x4, .int x5] (some (.int R.1)) σ R.2 := by
  refine g_enter (by decide) (Nat.le_of_ble_eq_true rfl) ?_
  intro p e s m args below meth c A hA C hr hlocks Z ls hl
  have hl : lv_has ls 6 [(0, .ref (ad 0)), (1, .int x1), (2, .int x2), (3, .int x3), (4, .int x4), (5, .int x5)] := hl
  exact w_X10_pays_0 C (g_RTi C.1.1 C.1.2.1 hr hlocks hA)  Z hl h
def r_X10_town : Room := { frames := 2, cells := 0, slots := 0, locals := 42 }
set_option maxRecDepth 20000 in
theorem w_X10_town_0 {p : Program} {l : Launch} {e : Env} {s : State} {m : MethodId} {args : Array Value} {below : List Frame} {meth : Method} {c : Code} {Q : State → Prop} {D : va_G} {kc : Nat → ClassId} {ad : Nat → Nat} {A : Nat → Prop} {adK adV : Nat → Nat} (C : Cx (eC adK adV) p s m args c cX10_town 5 RX10 D kc A) {R : Int32 × St} {x1 : Int32} {x2 : Int32} {x3 : Int32} {x4 : Int32} {σ : St} (hR : RTi 0 0 p l e r_X10_town s m args below meth c cX10_town tC kc ad D A Q .int R.1 R.2) {H : Heap} {locs : List Loc} {ls : Array Slot} (Z : Dy tC kc ad D A s.heap σ H locs) (hl : lv_has ls 5 [(0, .ref (ad 0)), (1, .int x1), (2, .int x2), (3, .int x3), (4, .int x4)]) (h : f_X10_town x1 x2 x3 x4 σ = some R) : W p l e r_X10_town s m args below meth c H locs 0 0 Q (F0 m 0 ls []) := by
  have hx := C.1.1
  have hb := C.1.2.1
  unfold f_X10_town at h
  refine lv_iload_n hx hb dX10_town_0 rfl (lv_at hl 1 rfl) ?_
  refine g_callSi (eC_ok adK adV) C Z (k_X10_isSide x1 σ) lk_X10_111 hl (by decide) rfl (Nat.le_of_ble_eq_true rfl) (rest := []) rfl dX10_town_1 (fun H locs Z => ?_)
  refine lv_if_eq (tgt := 41) hx hb dX10_town_4 (by decide) (fun c4 => ?_) (fun c4 => ?_)
  · have h := ip h c4
    refine lv_iconst (v := (-1)) hx hb dX10_town_41 (by decide) ?_
    obtain rfl := Option.some.inj h
    exact hR _ _ _ _ _ Z dX10_town_42 rfl
  · have h := im h c4
    refine lv_iload_n hx hb dX10_town_7 rfl (lv_at hl 2 rfl) ?_
    refine lv_iconst (v := 0) hx hb dX10_town_8 (by decide) ?_
    refine lv_sipush (v := 9999) hx hb dX10_town_9 (by decide) ?_
    refine g_callSi (eC_ok adK adV) C Z (k_X10_lies x2 0 9999 σ) lk_X10_99 hl (by decide) rfl (Nat.le_of_ble_eq_true rfl) (rest := []) rfl dX10_town_12 (fun H locs Z => ?_)
    refine lv_if_eq (tgt := 41) hx hb dX10_town_15 (by decide) (fun c15 => ?_) (fun c15 => ?_)
    · have h := ip h c15
      refine lv_iconst (v := (-1)) hx hb dX10_town_41 (by decide) ?_
      obtain rfl := Option.some.inj h
      exact hR _ _ _ _ _ Z dX10_town_42 rfl
    · have h := im h c15
      refine lv_iload_n hx hb dX10_town_18 rfl (lv_at hl 3 rfl) ?_
      refine lv_iconst (v := 0) hx hb dX10_town_19 (by decide) ?_
      refine lv_ldcw (v := 9999999) hx hb C.1.2.2.2.1 (C.1.2.2.2.2 _ wD_X10_291) dX10_town_20 ?_
      refine g_callSi (eC_ok adK adV) C Z (k_X10_lies x3 0 9999999 σ) lk_X10_99 hl (by decide) rfl (Nat.le_of_ble_eq_true rfl) (rest := []) rfl dX10_town_23 (fun H locs Z => ?_)
      refine lv_if_eq (tgt := 41) hx hb dX10_town_26 (by decide) (fun c26 => ?_) (fun c26 => ?_)
      · have h := ip h c26
        refine lv_iconst (v := (-1)) hx hb dX10_town_41 (by decide) ?_
        obtain rfl := Option.some.inj h
        exact hR _ _ _ _ _ Z dX10_town_42 rfl
      · have h := im h c26
        refine lv_iload hx hb dX10_town_29 (lv_at hl 4 rfl) ?_
        refine lv_iconst (v := 0) hx hb dX10_town_31 (by decide) ?_
        refine lv_ldcw (v := 99999) hx hb C.1.2.2.2.1 (C.1.2.2.2.2 _ wD_X10_326) dX10_town_32 ?_
        refine g_callSi (eC_ok adK adV) C Z (k_X10_lies x4 0 99999 σ) lk_X10_99 hl (by decide) rfl (Nat.le_of_ble_eq_true rfl) (rest := []) rfl dX10_town_35 (fun H locs Z => ?_)
        refine lv_if_ne (tgt := 43) hx hb dX10_town_38 (by decide) (fun c38 => ?_) (fun c38 => ?_)
        · have h := im h c38
          refine lv_aload_n hx hb dX10_town_43 rfl (lv_at hl 0 rfl) ?_
          refine rg_X10_81 C Z dX10_town_44 ?_
          refine lv_iload_n hx hb dX10_town_47 rfl (lv_at hl 1 rfl) ?_
          refine lv_iload_n hx hb dX10_town_48 rfl (lv_at hl 2 rfl) ?_
          refine lv_iload_n hx hb dX10_town_49 rfl (lv_at hl 3 rfl) ?_
          refine lv_iload hx hb dX10_town_50 (lv_at hl 4 rfl) ?_
          obtain ⟨u3, hu3, h⟩ := ob h
          refine g_callVi (eC_ok adK adV) C Z (k_X9_add hu3) lk_X10_327 (by decide) rfl rfl hl (by decide) rfl (Nat.le_of_ble_eq_true rfl) (rest := []) rfl dX10_town_52 (fun H locs Z => ?_)
          obtain rfl := Option.some.inj h
          exact hR _ _ _ _ _ Z dX10_town_55 rfl
        · have h := ip h c38
          refine lv_iconst (v := (-1)) hx hb dX10_town_41 (by decide) ?_
          obtain rfl := Option.some.inj h
          exact hR _ _ _ _ _ Z dX10_town_42 rfl
theorem k_X10_town {l : Launch} {kc : Nat → ClassId} {ad : Nat → Nat} {D : va_G} {adK adV : Nat → Nat} {x1 : Int32} {x2 : Int32} {x3 : Int32} {x4 : Int32} {σ : St} {R : Int32 × St} (h : f_X10_town x1 x2 x3 x4 σ = some R) : KC (eC adK adV) tC kc ad D l yX10_town (.code yX10_town cX10_town 5 (some .int)) r_X10_town [.ref (ad 0), .int x1, .int x2, .int x3, .int x4] (some (.int R.1)) σ R.2 := by
  refine g_enter (by decide) (Nat.le_of_ble_eq_true rfl) ?_
  intro p e s m args below meth c A hA C hr hlocks Z ls hl
  have hl : lv_has ls 5 [(0, .ref (ad 0)), (1, .int x1), (2, .int x2), (3, .int x3), (4, .int x4)] := hl
  exact w_X10_town_0 C (g_RTi C.1.1 C.1.2.1 hr hlocks hA)  Z hl h
def r_X10_bar : Room := { frames := 3, cells := 0, slots := 0, locals := 66 }
set_option maxRecDepth 20000 in
theorem w_X10_bar_0 {p : Program} {l : Launch} {e : Env} {s : State} {m : MethodId} {args : Array Value} {below : List Frame} {meth : Method} {c : Code} {Q : State → Prop} {D : va_G} {kc : Nat → ClassId} {ad : Nat → Nat} {A : Nat → Prop} {adK adV : Nat → Nat} (C : Cx (eC adK adV) p s m args c cX10_bar 4 RX10 D kc A) {R : Int32 × St} {x1 : Int32} {x2 : Int32} {x3 : Int32} {σ : St} (hR : RTi 0 0 p l e r_X10_bar s m args below meth c cX10_bar tC kc ad D A Q .int R.1 R.2) {H : Heap} {locs : List Loc} {ls : Array Slot} (Z : Dy tC kc ad D A s.heap σ H locs) (hl : lv_has ls 4 [(0, .ref (ad 0)), (1, .int x1), (2, .int x2), (3, .int x3)]) (h : f_X10_bar x1 x2 x3 σ = some R) : W p l e r_X10_bar s m args below meth c H locs 0 0 Q (F0 m 0 ls []) := by
  have hx := C.1.1
  have hb := C.1.2.1
  unfold f_X10_bar at h
  refine lv_aload_n hx hb dX10_bar_0 rfl (lv_at hl 0 rfl) ?_
  refine rg_X10_81 C Z dX10_bar_1 ?_
  refine lv_iload_n hx hb dX10_bar_4 rfl (lv_at hl 1 rfl) ?_
  refine g_callVi (eC_ok adK adV) C Z (k_X9_has x1 σ) lk_X10_328 (by decide) rfl rfl hl (by decide) rfl (Nat.le_of_ble_eq_true rfl) (rest := []) rfl dX10_bar_5 (fun H locs Z => ?_)
  refine lv_if_eq (tgt := 30) hx hb dX10_bar_8 (by decide) (fun c8 => ?_) (fun c8 => ?_)
  · have h := ip h c8
    refine lv_iconst (v := (-1)) hx hb dX10_bar_30 (by decide) ?_
    obtain rfl := Option.some.inj h
    exact hR _ _ _ _ _ Z dX10_bar_31 rfl
  · have h := im h c8
    refine lv_iload_n hx hb dX10_bar_11 rfl (lv_at hl 2 rfl) ?_
    refine g_callSi (eC_ok adK adV) C Z (k_X9_isWeek x2 σ) lk_X10_329 hl (by decide) rfl (Nat.le_of_ble_eq_true rfl) (rest := []) rfl dX10_bar_12 (fun H locs Z => ?_)
    refine lv_if_eq (tgt := 30) hx hb dX10_bar_15 (by decide) (fun c15 => ?_) (fun c15 => ?_)
    · have h := ip h c15
      refine lv_iconst (v := (-1)) hx hb dX10_bar_30 (by decide) ?_
      obtain rfl := Option.some.inj h
      exact hR _ _ _ _ _ Z dX10_bar_31 rfl
    · have h := im h c15
      refine lv_iload_n hx hb dX10_bar_18 rfl (lv_at hl 3 rfl) ?_
      refine g_callSi (eC_ok adK adV) C Z (k_X9_isWeek x3 σ) lk_X10_329 hl (by decide) rfl (Nat.le_of_ble_eq_true rfl) (rest := []) rfl dX10_bar_19 (fun H locs Z => ?_)
      refine lv_if_eq (tgt := 30) hx hb dX10_bar_22 (by decide) (fun c22 => ?_) (fun c22 => ?_)
      · have h := ip h c22
        refine lv_iconst (v := (-1)) hx hb dX10_bar_30 (by decide) ?_
        obtain rfl := Option.some.inj h
        exact hR _ _ _ _ _ Z dX10_bar_31 rfl
      · have h := im h c22
        refine lv_iload_n hx hb dX10_bar_25 rfl (lv_at hl 2 rfl) ?_
        refine lv_iload_n hx hb dX10_bar_26 rfl (lv_at hl 3 rfl) ?_
        refine lv_icmp_le (tgt := 32) hx hb dX10_bar_27 (by decide) (fun c27 => ?_) (fun c27 => ?_)
        · have h := ip h c27
          refine lv_aload_n hx hb dX10_bar_32 rfl (lv_at hl 0 rfl) ?_
          refine rg_X10_81 C Z dX10_bar_33 ?_
          refine lv_iload_n hx hb dX10_bar_36 rfl (lv_at hl 1 rfl) ?_
          refine lv_iload_n hx hb dX10_bar_37 rfl (lv_at hl 2 rfl) ?_
          refine lv_iload_n hx hb dX10_bar_38 rfl (lv_at hl 3 rfl) ?_
          obtain ⟨u3, hu3, h⟩ := ob h
          refine g_callVi (eC_ok adK adV) C Z (k_X9_addBar hu3) lk_X10_332 (by decide) rfl rfl hl (by decide) rfl (Nat.le_of_ble_eq_true rfl) (rest := []) rfl dX10_bar_39 (fun H locs Z => ?_)
          obtain rfl := Option.some.inj h
          exact hR _ _ _ _ _ Z dX10_bar_42 rfl
        · have h := im h c27
          refine lv_iconst (v := (-1)) hx hb dX10_bar_30 (by decide) ?_
          obtain rfl := Option.some.inj h
          exact hR _ _ _ _ _ Z dX10_bar_31 rfl
theorem k_X10_bar {l : Launch} {kc : Nat → ClassId} {ad : Nat → Nat} {D : va_G} {adK adV : Nat → Nat} {x1 : Int32} {x2 : Int32} {x3 : Int32} {σ : St} {R : Int32 × St} (h : f_X10_bar x1 x2 x3 σ = some R) : KC (eC adK adV) tC kc ad D l yX10_bar (.code yX10_bar cX10_bar 4 (some .int)) r_X10_bar [.ref (ad 0), .int x1, .int x2, .int x3] (some (.int R.1)) σ R.2 := by
  refine g_enter (by decide) (Nat.le_of_ble_eq_true rfl) ?_
  intro p e s m args below meth c A hA C hr hlocks Z ls hl
  have hl : lv_has ls 4 [(0, .ref (ad 0)), (1, .int x1), (2, .int x2), (3, .int x3)] := hl
  exact w_X10_bar_0 C (g_RTi C.1.1 C.1.2.1 hr hlocks hA)  Z hl h
def r_X10_lost : Room := { frames := 2, cells := 0, slots := 0, locals := 45 }
set_option maxRecDepth 20000 in
theorem w_X10_lost_0 {p : Program} {l : Launch} {e : Env} {s : State} {m : MethodId} {args : Array Value} {below : List Frame} {meth : Method} {c : Code} {Q : State → Prop} {D : va_G} {kc : Nat → ClassId} {ad : Nat → Nat} {A : Nat → Prop} {adK adV : Nat → Nat} (C : Cx (eC adK adV) p s m args c cX10_lost 3 RX10 D kc A) {R : Int32} {x1 : Int32} {x2 : Int32} {σ : St} (hR : RTi 0 0 p l e r_X10_lost s m args below meth c cX10_lost tC kc ad D A Q .int R σ) {H : Heap} {locs : List Loc} {ls : Array Slot} (Z : Dy tC kc ad D A s.heap σ H locs) (hl : lv_has ls 3 [(0, .ref (ad 0)), (1, .int x1), (2, .int x2)]) (h : f_X10_lost x1 x2 σ = some R) : W p l e r_X10_lost s m args below meth c H locs 0 0 Q (F0 m 0 ls []) := by
  have hx := C.1.1
  have hb := C.1.2.1
  unfold f_X10_lost at h
  refine lv_aload_n hx hb dX10_lost_0 rfl (lv_at hl 0 rfl) ?_
  refine rg_X10_81 C Z dX10_lost_1 ?_
  refine lv_iload_n hx hb dX10_lost_4 rfl (lv_at hl 1 rfl) ?_
  refine g_callVi (eC_ok adK adV) C Z (k_X9_has x1 σ) lk_X10_328 (by decide) rfl rfl hl (by decide) rfl (Nat.le_of_ble_eq_true rfl) (rest := []) rfl dX10_lost_5 (fun H locs Z => ?_)
  refine lv_if_eq (tgt := 18) hx hb dX10_lost_8 (by decide) (fun c8 => ?_) (fun c8 => ?_)
  · have h := ip h c8
    refine lv_iconst (v := (-1)) hx hb dX10_lost_18 (by decide) ?_
    obtain rfl := Option.some.inj h
    exact hR _ _ _ _ _ Z dX10_lost_19 rfl
  · have h := im h c8
    refine lv_iload_n hx hb dX10_lost_11 rfl (lv_at hl 2 rfl) ?_
    refine g_callSi (eC_ok adK adV) C Z (k_X9_isWeek x2 σ) lk_X10_329 hl (by decide) rfl (Nat.le_of_ble_eq_true rfl) (rest := []) rfl dX10_lost_12 (fun H locs Z => ?_)
    refine lv_if_ne (tgt := 20) hx hb dX10_lost_15 (by decide) (fun c15 => ?_) (fun c15 => ?_)
    · have h := im h c15
      refine lv_aload_n hx hb dX10_lost_20 rfl (lv_at hl 0 rfl) ?_
      refine rg_X10_81 C Z dX10_lost_21 ?_
      refine lv_iload_n hx hb dX10_lost_24 rfl (lv_at hl 1 rfl) ?_
      refine lv_iload_n hx hb dX10_lost_25 rfl (lv_at hl 2 rfl) ?_
      obtain ⟨v3, hv3, h⟩ := ob h
      refine g_callVi (eC_ok adK adV) C Z (k_X9_lostBy hv3) lk_X10_335 (by decide) rfl rfl hl (by decide) rfl (Nat.le_of_ble_eq_true rfl) (rest := []) rfl dX10_lost_26 (fun H locs Z => ?_)
      obtain rfl := Option.some.inj h
      exact hR _ _ _ _ _ Z dX10_lost_29 rfl
    · have h := ip h c15
      refine lv_iconst (v := (-1)) hx hb dX10_lost_18 (by decide) ?_
      obtain rfl := Option.some.inj h
      exact hR _ _ _ _ _ Z dX10_lost_19 rfl
theorem k_X10_lost {l : Launch} {kc : Nat → ClassId} {ad : Nat → Nat} {D : va_G} {adK adV : Nat → Nat} {x1 : Int32} {x2 : Int32} {σ : St} {R : Int32} (h : f_X10_lost x1 x2 σ = some R) : KC (eC adK adV) tC kc ad D l yX10_lost (.code yX10_lost cX10_lost 3 (some .int)) r_X10_lost [.ref (ad 0), .int x1, .int x2] (some (.int R)) σ σ := by
  refine g_enter (by decide) (Nat.le_of_ble_eq_true rfl) ?_
  intro p e s m args below meth c A hA C hr hlocks Z ls hl
  have hl : lv_has ls 3 [(0, .ref (ad 0)), (1, .int x1), (2, .int x2)] := hl
  exact w_X10_lost_0 C (g_RTi C.1.1 C.1.2.1 hr hlocks hA)  Z hl h
def r_X10_yields : Room := { frames := 2, cells := 0, slots := 0, locals := 44 }
set_option maxRecDepth 20000 in
theorem w_X10_yields_0 {p : Program} {l : Launch} {e : Env} {s : State} {m : MethodId} {args : Array Value} {below : List Frame} {meth : Method} {c : Code} {Q : State → Prop} {D : va_G} {kc : Nat → ClassId} {ad : Nat → Nat} {A : Nat → Prop} {adK adV : Nat → Nat} (C : Cx (eC adK adV) p s m args c cX10_yields 2 RX10 D kc A) {R : Int32} {x1 : Int32} {σ : St} (hR : RTi 0 0 p l e r_X10_yields s m args below meth c cX10_yields tC kc ad D A Q .int R σ) {H : Heap} {locs : List Loc} {ls : Array Slot} (Z : Dy tC kc ad D A s.heap σ H locs) (hl : lv_has ls 2 [(0, .ref (ad 0)), (1, .int x1)]) (h : f_X10_yields x1 σ = some R) : W p l e r_X10_yields s m args below meth c H locs 0 0 Q (F0 m 0 ls []) := by
  have hx := C.1.1
  have hb := C.1.2.1
  unfold f_X10_yields at h
  refine lv_aload_n hx hb dX10_yields_0 rfl (lv_at hl 0 rfl) ?_
  refine rg_X10_81 C Z dX10_yields_1 ?_
  refine lv_iload_n hx hb dX10_yields_4 rfl (lv_at hl 1 rfl) ?_
  refine g_callVi (eC_ok adK adV) C Z (k_X9_has x1 σ) lk_X10_328 (by decide) rfl rfl hl (by decide) rfl (Nat.le_of_ble_eq_true rfl) (rest := []) rfl dX10_yields_5 (fun H locs Z => ?_)
  refine lv_if_eq (tgt := 22) hx hb dX10_yields_8 (by decide) (fun c8 => ?_) (fun c8 => ?_)
  · have h := ip h c8
    refine lv_iconst (v := (-1)) hx hb dX10_yields_22 (by decide) ?_
    obtain rfl := Option.some.inj h
    exact hR _ _ _ _ _ Z dX10_yields_23 rfl
  · have h := im h c8
    refine lv_aload_n hx hb dX10_yields_11 rfl (lv_at hl 0 rfl) ?_
    refine rg_X10_81 C Z dX10_yields_12 ?_
    refine lv_iload_n hx hb dX10_yields_15 rfl (lv_at hl 1 rfl) ?_
    obtain ⟨v3, hv3, h⟩ := ob h
    refine g_callVi (eC_ok adK adV) C Z (k_X9_weekOf hv3) lk_X10_338 (by decide) rfl rfl hl (by decide) rfl (Nat.le_of_ble_eq_true rfl) (rest := []) rfl dX10_yields_16 (fun H locs Z => ?_)
    refine lv_goto (tgt := 23) hx hb dX10_yields_19 (by decide) ?_
    obtain rfl := Option.some.inj h
    exact hR _ _ _ _ _ Z dX10_yields_23 rfl
theorem k_X10_yields {l : Launch} {kc : Nat → ClassId} {ad : Nat → Nat} {D : va_G} {adK adV : Nat → Nat} {x1 : Int32} {σ : St} {R : Int32} (h : f_X10_yields x1 σ = some R) : KC (eC adK adV) tC kc ad D l yX10_yields (.code yX10_yields cX10_yields 2 (some .int)) r_X10_yields [.ref (ad 0), .int x1] (some (.int R)) σ σ := by
  refine g_enter (by decide) (Nat.le_of_ble_eq_true rfl) ?_
  intro p e s m args below meth c A hA C hr hlocks Z ls hl
  have hl : lv_has ls 2 [(0, .ref (ad 0)), (1, .int x1)] := hl
  exact w_X10_yields_0 C (g_RTi C.1.1 C.1.2.1 hr hlocks hA)  Z hl h
def r_X10_sideYields : Room := { frames := 4, cells := 0, slots := 0, locals := 94 }
set_option maxRecDepth 20000 in
theorem w_X10_sideYields_0 {p : Program} {l : Launch} {e : Env} {s : State} {m : MethodId} {args : Array Value} {below : List Frame} {meth : Method} {c : Code} {Q : State → Prop} {D : va_G} {kc : Nat → ClassId} {ad : Nat → Nat} {A : Nat → Prop} {adK adV : Nat → Nat} (C : Cx (eC adK adV) p s m args c cX10_sideYields 2 RX10 D kc A) {R : Int32} {x1 : Int32} {σ : St} (hR : RTi 0 0 p l e r_X10_sideYields s m args below meth c cX10_sideYields tC kc ad D A Q .int R σ) {H : Heap} {locs : List Loc} {ls : Array Slot} (Z : Dy tC kc ad D A s.heap σ H locs) (hl : lv_has ls 2 [(0, .ref (ad 0)), (1, .int x1)]) (h : f_X10_sideYields x1 σ = some R) : W p l e r_X10_sideYields s m args below meth c H locs 0 0 Q (F0 m 0 ls []) := by
  have hx := C.1.1
  have hb := C.1.2.1
  unfold f_X10_sideYields at h
  refine lv_iload_n hx hb dX10_sideYields_0 rfl (lv_at hl 1 rfl) ?_
  refine g_callSi (eC_ok adK adV) C Z (k_X10_isSide x1 σ) lk_X10_111 hl (by decide) rfl (Nat.le_of_ble_eq_true rfl) (rest := []) rfl dX10_sideYields_1 (fun H locs Z => ?_)
  refine lv_if_eq (tgt := 18) hx hb dX10_sideYields_4 (by decide) (fun c4 => ?_) (fun c4 => ?_)
  · have h := ip h c4
    refine lv_iconst (v := (-1)) hx hb dX10_sideYields_18 (by decide) ?_
    obtain rfl := Option.some.inj h
    exact hR _ _ _ _ _ Z dX10_sideYields_19 rfl
  · have h := im h c4
    refine lv_aload_n hx hb dX10_sideYields_7 rfl (lv_at hl 0 rfl) ?_
    refine rg_X10_81 C Z dX10_sideYields_8 ?_
    refine lv_iload_n hx hb dX10_sideYields_11 rfl (lv_at hl 1 rfl) ?_
    obtain ⟨v3, hv3, h⟩ := ob h
    refine g_callVi (eC_ok adK adV) C Z (k_X9_weekOfSide hv3) lk_X10_341 (by decide) rfl rfl hl (by decide) rfl (Nat.le_of_ble_eq_true rfl) (rest := []) rfl dX10_sideYields_12 (fun H locs Z => ?_)
    refine lv_goto (tgt := 19) hx hb dX10_sideYields_15 (by decide) ?_
    obtain rfl := Option.some.inj h
    exact hR _ _ _ _ _ Z dX10_sideYields_19 rfl
theorem k_X10_sideYields {l : Launch} {kc : Nat → ClassId} {ad : Nat → Nat} {D : va_G} {adK adV : Nat → Nat} {x1 : Int32} {σ : St} {R : Int32} (h : f_X10_sideYields x1 σ = some R) : KC (eC adK adV) tC kc ad D l yX10_sideYields (.code yX10_sideYields cX10_sideYields 2 (some .int)) r_X10_sideYields [.ref (ad 0), .int x1] (some (.int R)) σ σ := by
  refine g_enter (by decide) (Nat.le_of_ble_eq_true rfl) ?_
  intro p e s m args below meth c A hA C hr hlocks Z ls hl
  have hl : lv_has ls 2 [(0, .ref (ad 0)), (1, .int x1)] := hl
  exact w_X10_sideYields_0 C (g_RTi C.1.1 C.1.2.1 hr hlocks hA)  Z hl h
def r_X10_term : Room := { frames := 1, cells := 0, slots := 0, locals := 22 }
set_option maxRecDepth 20000 in
theorem w_X10_term_0 {p : Program} {l : Launch} {e : Env} {s : State} {m : MethodId} {args : Array Value} {below : List Frame} {meth : Method} {c : Code} {Q : State → Prop} {D : va_G} {kc : Nat → ClassId} {ad : Nat → Nat} {A : Nat → Prop} {adK adV : Nat → Nat} (C : Cx (eC adK adV) p s m args c cX10_term 3 RX10 D kc A) {R : Int32 × St} {x1 : Int32} {x2 : Int32} {σ : St} (hR : RTi 0 0 p l e r_X10_term s m args below meth c cX10_term tC kc ad D A Q .int R.1 R.2) {H : Heap} {locs : List Loc} {ls : Array Slot} (Z : Dy tC kc ad D A s.heap σ H locs) (hl : lv_has ls 3 [(0, .ref (ad 0)), (1, .int x1), (2, .int x2)]) (h : f_X10_term x1 x2 σ = some R) : W p l e r_X10_term s m args below meth c H locs 0 0 Q (F0 m 0 ls []) := by
  have hx := C.1.1
  have hb := C.1.2.1
  unfold f_X10_term at h
  refine lv_iload_n hx hb dX10_term_0 rfl (lv_at hl 1 rfl) ?_
  refine lv_sipush (v := (-9999)) hx hb dX10_term_1 (by decide) ?_
  refine lv_sipush (v := 9999) hx hb dX10_term_4 (by decide) ?_
  refine g_callSi (eC_ok adK adV) C Z (k_X10_lies x1 (-9999) 9999 σ) lk_X10_99 hl (by decide) rfl (Nat.le_of_ble_eq_true rfl) (rest := []) rfl dX10_term_7 (fun H locs Z => ?_)
  refine lv_if_eq (tgt := 26) hx hb dX10_term_10 (by decide) (fun c10 => ?_) (fun c10 => ?_)
  · have h := ip h c10
    refine lv_iconst (v := (-1)) hx hb dX10_term_26 (by decide) ?_
    obtain rfl := Option.some.inj h
    exact hR _ _ _ _ _ Z dX10_term_27 rfl
  · have h := im h c10
    refine lv_iload_n hx hb dX10_term_13 rfl (lv_at hl 2 rfl) ?_
    refine lv_sipush (v := (-9999)) hx hb dX10_term_14 (by decide) ?_
    refine lv_sipush (v := 9999) hx hb dX10_term_17 (by decide) ?_
    refine g_callSi (eC_ok adK adV) C Z (k_X10_lies x2 (-9999) 9999 σ) lk_X10_99 hl (by decide) rfl (Nat.le_of_ble_eq_true rfl) (rest := []) rfl dX10_term_20 (fun H locs Z => ?_)
    refine lv_if_ne (tgt := 28) hx hb dX10_term_23 (by decide) (fun c23 => ?_) (fun c23 => ?_)
    · have h := im h c23
      refine lv_aload_n hx hb dX10_term_28 rfl (lv_at hl 0 rfl) ?_
      refine rg_X10_88 C Z dX10_term_29 ?_
      refine lv_iload_n hx hb dX10_term_32 rfl (lv_at hl 1 rfl) ?_
      refine lv_iload_n hx hb dX10_term_33 rfl (lv_at hl 2 rfl) ?_
      obtain ⟨u3, hu3, h⟩ := ob h
      refine g_callVi (eC_ok adK adV) C Z (k_X3_add hu3) lk_X10_344 (by decide) rfl rfl hl (by decide) rfl (Nat.le_of_ble_eq_true rfl) (rest := []) rfl dX10_term_34 (fun H locs Z => ?_)
      obtain rfl := Option.some.inj h
      exact hR _ _ _ _ _ Z dX10_term_37 rfl
    · have h := ip h c23
      refine lv_iconst (v := (-1)) hx hb dX10_term_26 (by decide) ?_
      obtain rfl := Option.some.inj h
      exact hR _ _ _ _ _ Z dX10_term_27 rfl
theorem k_X10_term {l : Launch} {kc : Nat → ClassId} {ad : Nat → Nat} {D : va_G} {adK adV : Nat → Nat} {x1 : Int32} {x2 : Int32} {σ : St} {R : Int32 × St} (h : f_X10_term x1 x2 σ = some R) : KC (eC adK adV) tC kc ad D l yX10_term (.code yX10_term cX10_term 3 (some .int)) r_X10_term [.ref (ad 0), .int x1, .int x2] (some (.int R.1)) σ R.2 := by
  refine g_enter (by decide) (Nat.le_of_ble_eq_true rfl) ?_
  intro p e s m args below meth c A hA C hr hlocks Z ls hl
  have hl : lv_has ls 3 [(0, .ref (ad 0)), (1, .int x1), (2, .int x2)] := hl
  exact w_X10_term_0 C (g_RTi C.1.1 C.1.2.1 hr hlocks hA)  Z hl h
def r_X10_sign : Room := { frames := 2, cells := 0, slots := 0, locals := 52 }
set_option maxRecDepth 20000 in
theorem w_X10_sign_0 {p : Program} {l : Launch} {e : Env} {s : State} {m : MethodId} {args : Array Value} {below : List Frame} {meth : Method} {c : Code} {Q : State → Prop} {D : va_G} {kc : Nat → ClassId} {ad : Nat → Nat} {A : Nat → Prop} {adK adV : Nat → Nat} (C : Cx (eC adK adV) p s m args c cX10_sign 3 RX10 D kc A) {R : Int32} {x1 : Int32} {x2 : Int32} {σ : St} (hR : RTi 0 0 p l e r_X10_sign s m args below meth c cX10_sign tC kc ad D A Q .int R σ) {H : Heap} {locs : List Loc} {ls : Array Slot} (Z : Dy tC kc ad D A s.heap σ H locs) (hl : lv_has ls 3 [(0, .ref (ad 0)), (1, .int x1), (2, .int x2)]) (h : f_X10_sign x1 x2 σ = some R) : W p l e r_X10_sign s m args below meth c H locs 0 0 Q (F0 m 0 ls []) := by
  have hx := C.1.1
  have hb := C.1.2.1
  unfold f_X10_sign at h
  refine lv_iload_n hx hb dX10_sign_0 rfl (lv_at hl 1 rfl) ?_
  refine lv_ldcw (v := (-99999)) hx hb C.1.2.2.2.1 (C.1.2.2.2.2 _ wD_X10_346) dX10_sign_1 ?_
  refine lv_ldcw (v := 99999) hx hb C.1.2.2.2.1 (C.1.2.2.2.2 _ wD_X10_326) dX10_sign_4 ?_
  refine g_callSi (eC_ok adK adV) C Z (k_X10_lies x1 (-99999) 99999 σ) lk_X10_99 hl (by decide) rfl (Nat.le_of_ble_eq_true rfl) (rest := []) rfl dX10_sign_7 (fun H locs Z => ?_)
  refine lv_if_eq (tgt := 26) hx hb dX10_sign_10 (by decide) (fun c10 => ?_) (fun c10 => ?_)
  · have h := ip h c10
    refine lv_iconst (v := (-1)) hx hb dX10_sign_26 (by decide) ?_
    obtain rfl := Option.some.inj h
    exact hR _ _ _ _ _ Z dX10_sign_27 rfl
  · have h := im h c10
    refine lv_iload_n hx hb dX10_sign_13 rfl (lv_at hl 2 rfl) ?_
    refine lv_ldcw (v := (-99999)) hx hb C.1.2.2.2.1 (C.1.2.2.2.2 _ wD_X10_346) dX10_sign_14 ?_
    refine lv_ldcw (v := 99999) hx hb C.1.2.2.2.1 (C.1.2.2.2.2 _ wD_X10_326) dX10_sign_17 ?_
    refine g_callSi (eC_ok adK adV) C Z (k_X10_lies x2 (-99999) 99999 σ) lk_X10_99 hl (by decide) rfl (Nat.le_of_ble_eq_true rfl) (rest := []) rfl dX10_sign_20 (fun H locs Z => ?_)
    refine lv_if_ne (tgt := 28) hx hb dX10_sign_23 (by decide) (fun c23 => ?_) (fun c23 => ?_)
    · have h := im h c23
      refine lv_aload_n hx hb dX10_sign_28 rfl (lv_at hl 0 rfl) ?_
      refine rg_X10_88 C Z dX10_sign_29 ?_
      refine lv_iload_n hx hb dX10_sign_32 rfl (lv_at hl 1 rfl) ?_
      refine lv_iload_n hx hb dX10_sign_33 rfl (lv_at hl 2 rfl) ?_
      obtain ⟨v3, hv3, h⟩ := ob h
      refine g_callVi (eC_ok adK adV) C Z (k_X3_bestSet hv3) lk_X10_347 (by decide) rfl rfl hl (by decide) rfl (Nat.le_of_ble_eq_true rfl) (rest := []) rfl dX10_sign_34 (fun H locs Z => ?_)
      obtain rfl := Option.some.inj h
      exact hR _ _ _ _ _ Z dX10_sign_37 rfl
    · have h := ip h c23
      refine lv_iconst (v := (-1)) hx hb dX10_sign_26 (by decide) ?_
      obtain rfl := Option.some.inj h
      exact hR _ _ _ _ _ Z dX10_sign_27 rfl
theorem k_X10_sign {l : Launch} {kc : Nat → ClassId} {ad : Nat → Nat} {D : va_G} {adK adV : Nat → Nat} {x1 : Int32} {x2 : Int32} {σ : St} {R : Int32} (h : f_X10_sign x1 x2 σ = some R) : KC (eC adK adV) tC kc ad D l yX10_sign (.code yX10_sign cX10_sign 3 (some .int)) r_X10_sign [.ref (ad 0), .int x1, .int x2] (some (.int R)) σ σ := by
  refine g_enter (by decide) (Nat.le_of_ble_eq_true rfl) ?_
  intro p e s m args below meth c A hA C hr hlocks Z ls hl
  have hl : lv_has ls 3 [(0, .ref (ad 0)), (1, .int x1), (2, .int x2)] := hl
  exact w_X10_sign_0 C (g_RTi C.1.1 C.1.2.1 hr hlocks hA)  Z hl h
def r_X10_box : Room := { frames := 1, cells := 0, slots := 0, locals := 23 }
set_option maxRecDepth 20000 in
theorem w_X10_box_0 {p : Program} {l : Launch} {e : Env} {s : State} {m : MethodId} {args : Array Value} {below : List Frame} {meth : Method} {c : Code} {Q : State → Prop} {D : va_G} {kc : Nat → ClassId} {ad : Nat → Nat} {A : Nat → Prop} {adK adV : Nat → Nat} (C : Cx (eC adK adV) p s m args c cX10_box 4 RX10 D kc A) {R : Int32 × St} {x1 : Int32} {x2 : Int32} {x3 : Int32} {σ : St} (hR : RTi 0 0 p l e r_X10_box s m args below meth c cX10_box tC kc ad D A Q .int R.1 R.2) {H : Heap} {locs : List Loc} {ls : Array Slot} (Z : Dy tC kc ad D A s.heap σ H locs) (hl : lv_has ls 4 [(0, .ref (ad 0)), (1, .int x1), (2, .int x2), (3, .int x3)]) (h : f_X10_box x1 x2 x3 σ = some R) : W p l e r_X10_box s m args below meth c H locs 0 0 Q (F0 m 0 ls []) := by
  have hx := C.1.1
  have hb := C.1.2.1
  unfold f_X10_box at h
  refine lv_iload_n hx hb dX10_box_0 rfl (lv_at hl 1 rfl) ?_
  refine lv_iconst (v := 0) hx hb dX10_box_1 (by decide) ?_
  refine lv_sipush (v := 9999) hx hb dX10_box_2 (by decide) ?_
  refine g_callSi (eC_ok adK adV) C Z (k_X10_lies x1 0 9999 σ) lk_X10_99 hl (by decide) rfl (Nat.le_of_ble_eq_true rfl) (rest := []) rfl dX10_box_5 (fun H locs Z => ?_)
  refine lv_if_eq (tgt := 32) hx hb dX10_box_8 (by decide) (fun c8 => ?_) (fun c8 => ?_)
  · have h := ip h c8
    refine lv_iconst (v := (-1)) hx hb dX10_box_32 (by decide) ?_
    obtain rfl := Option.some.inj h
    exact hR _ _ _ _ _ Z dX10_box_33 rfl
  · have h := im h c8
    refine lv_iload_n hx hb dX10_box_11 rfl (lv_at hl 2 rfl) ?_
    refine lv_iconst (v := 0) hx hb dX10_box_12 (by decide) ?_
    refine lv_sipush (v := 999) hx hb dX10_box_13 (by decide) ?_
    refine g_callSi (eC_ok adK adV) C Z (k_X10_lies x2 0 999 σ) lk_X10_99 hl (by decide) rfl (Nat.le_of_ble_eq_true rfl) (rest := []) rfl dX10_box_16 (fun H locs Z => ?_)
    refine lv_if_eq (tgt := 32) hx hb dX10_box_19 (by decide) (fun c19 => ?_) (fun c19 => ?_)
    · have h := ip h c19
      refine lv_iconst (v := (-1)) hx hb dX10_box_32 (by decide) ?_
      obtain rfl := Option.some.inj h
      exact hR _ _ _ _ _ Z dX10_box_33 rfl
    · have h := im h c19
      refine lv_iload_n hx hb dX10_box_22 rfl (lv_at hl 3 rfl) ?_
      refine lv_iconst (v := 0) hx hb dX10_box_23 (by decide) ?_
      refine lv_bipush (v := 99) hx hb dX10_box_24 (by decide) ?_
      refine g_callSi (eC_ok adK adV) C Z (k_X10_lies x3 0 99 σ) lk_X10_99 hl (by decide) rfl (Nat.le_of_ble_eq_true rfl) (rest := []) rfl dX10_box_26 (fun H locs Z => ?_)
      refine lv_if_ne (tgt := 34) hx hb dX10_box_29 (by decide) (fun c29 => ?_) (fun c29 => ?_)
      · have h := im h c29
        refine lv_aload_n hx hb dX10_box_34 rfl (lv_at hl 0 rfl) ?_
        refine rg_X10_95 C Z dX10_box_35 ?_
        refine lv_iload_n hx hb dX10_box_38 rfl (lv_at hl 1 rfl) ?_
        refine lv_iload_n hx hb dX10_box_39 rfl (lv_at hl 2 rfl) ?_
        refine lv_iload_n hx hb dX10_box_40 rfl (lv_at hl 3 rfl) ?_
        obtain ⟨u3, hu3, h⟩ := ob h
        refine g_callVi (eC_ok adK adV) C Z (k_X0_add hu3) lk_X10_350 (by decide) rfl rfl hl (by decide) rfl (Nat.le_of_ble_eq_true rfl) (rest := []) rfl dX10_box_41 (fun H locs Z => ?_)
        obtain rfl := Option.some.inj h
        exact hR _ _ _ _ _ Z dX10_box_44 rfl
      · have h := ip h c29
        refine lv_iconst (v := (-1)) hx hb dX10_box_32 (by decide) ?_
        obtain rfl := Option.some.inj h
        exact hR _ _ _ _ _ Z dX10_box_33 rfl
theorem k_X10_box {l : Launch} {kc : Nat → ClassId} {ad : Nat → Nat} {D : va_G} {adK adV : Nat → Nat} {x1 : Int32} {x2 : Int32} {x3 : Int32} {σ : St} {R : Int32 × St} (h : f_X10_box x1 x2 x3 σ = some R) : KC (eC adK adV) tC kc ad D l yX10_box (.code yX10_box cX10_box 4 (some .int)) r_X10_box [.ref (ad 0), .int x1, .int x2, .int x3] (some (.int R.1)) σ R.2 := by
  refine g_enter (by decide) (Nat.le_of_ble_eq_true rfl) ?_
  intro p e s m args below meth c A hA C hr hlocks Z ls hl
  have hl : lv_has ls 4 [(0, .ref (ad 0)), (1, .int x1), (2, .int x2), (3, .int x3)] := hl
  exact w_X10_box_0 C (g_RTi C.1.1 C.1.2.1 hr hlocks hA)  Z hl h
def r_X10_escort : Room := { frames := 6, cells := 0, slots := 0, locals := 149 }
set_option maxRecDepth 20000 in
theorem w_X10_escort_43 {p : Program} {l : Launch} {e : Env} {s : State} {m : MethodId} {args : Array Value} {below : List Frame} {meth : Method} {c : Code} {Q : State → Prop} {D : va_G} {kc : Nat → ClassId} {ad : Nat → Nat} {A : Nat → Prop} {adK adV : Nat → Nat} (C : Cx (eC adK adV) p s m args c cX10_escort 3 RX10 D kc A) {R : Int32 × St} {x1 : Int32} {x2 : Int32} {σ : St} (hR : RTi 0 0 p l e r_X10_escort s m args below meth c cX10_escort tC kc ad D A Q .int R.1 R.2) {H : Heap} {locs : List Loc} {ls : Array Slot} (Z : Dy tC kc ad D A s.heap σ H locs) (hl : lv_has ls 3 [(0, .ref (ad 0)), (1, .int x1), (2, .int x2)]) (h : f_X10_escort_43 x1 x2 σ = some R) : W p l e r_X10_escort s m args below meth c H locs 0 0 Q (F0 m 43 ls []) := by
  have hx := C.1.1
  have hb := C.1.2.1
  unfold f_X10_escort_43 at h
  refine lv_aload_n hx hb dX10_escort_43 rfl (lv_at hl 0 rfl) ?_
  refine rg_X10_95 C Z dX10_escort_44 ?_
  refine lv_iload_n hx hb dX10_escort_47 rfl (lv_at hl 1 rfl) ?_
  refine lv_iload_n hx hb dX10_escort_48 rfl (lv_at hl 2 rfl) ?_
  obtain ⟨u3, hu3, h⟩ := ob h
  refine g_callVi (eC_ok adK adV) C Z (k_X0_give hu3) lk_X10_353 (by decide) rfl rfl hl (by decide) rfl (Nat.le_of_ble_eq_true rfl) (rest := []) rfl dX10_escort_49 (fun H locs Z => ?_)
  obtain rfl := Option.some.inj h
  exact hR _ _ _ _ _ Z dX10_escort_52 rfl
set_option maxRecDepth 20000 in
theorem w_X10_escort_0 {p : Program} {l : Launch} {e : Env} {s : State} {m : MethodId} {args : Array Value} {below : List Frame} {meth : Method} {c : Code} {Q : State → Prop} {D : va_G} {kc : Nat → ClassId} {ad : Nat → Nat} {A : Nat → Prop} {adK adV : Nat → Nat} (C : Cx (eC adK adV) p s m args c cX10_escort 3 RX10 D kc A) {R : Int32 × St} {x1 : Int32} {x2 : Int32} {σ : St} (hR : RTi 0 0 p l e r_X10_escort s m args below meth c cX10_escort tC kc ad D A Q .int R.1 R.2) {H : Heap} {locs : List Loc} {ls : Array Slot} (Z : Dy tC kc ad D A s.heap σ H locs) (hl : lv_has ls 3 [(0, .ref (ad 0)), (1, .int x1), (2, .int x2)]) (h : f_X10_escort x1 x2 σ = some R) : W p l e r_X10_escort s m args below meth c H locs 0 0 Q (F0 m 0 ls []) := by
  have hx := C.1.1
  have hb := C.1.2.1
  unfold f_X10_escort at h
  refine lv_iload_n hx hb dX10_escort_0 rfl (lv_at hl 1 rfl) ?_
  refine lv_iconst (v := 0) hx hb dX10_escort_1 (by decide) ?_
  refine lv_bipush (v := 12) hx hb dX10_escort_2 (by decide) ?_
  refine g_callSi (eC_ok adK adV) C Z (k_X10_lies x1 0 12 σ) lk_X10_99 hl (by decide) rfl (Nat.le_of_ble_eq_true rfl) (rest := []) rfl dX10_escort_4 (fun H locs Z => ?_)
  refine lv_if_eq (tgt := 20) hx hb dX10_escort_7 (by decide) (fun c7 => ?_) (fun c7 => ?_)
  · have h := ip h c7
    refine lv_iconst (v := (-1)) hx hb dX10_escort_20 (by decide) ?_
    obtain rfl := Option.some.inj h
    exact hR _ _ _ _ _ Z dX10_escort_21 rfl
  · have h := im h c7
    refine lv_iload_n hx hb dX10_escort_10 rfl (lv_at hl 2 rfl) ?_
    refine lv_iconst (v := 0) hx hb dX10_escort_11 (by decide) ?_
    refine lv_bipush (v := 6) hx hb dX10_escort_12 (by decide) ?_
    refine g_callSi (eC_ok adK adV) C Z (k_X10_lies x2 0 6 σ) lk_X10_99 hl (by decide) rfl (Nat.le_of_ble_eq_true rfl) (rest := []) rfl dX10_escort_14 (fun H locs Z => ?_)
    refine lv_if_ne (tgt := 22) hx hb dX10_escort_17 (by decide) (fun c17 => ?_) (fun c17 => ?_)
    · have h := im h c17
      refine lv_aload_n hx hb dX10_escort_22 rfl (lv_at hl 0 rfl) ?_
      refine rg_X10_95 C Z dX10_escort_23 ?_
      refine rg_X10_352 C Z dX10_escort_26 ?_
      refine lv_if_ne (tgt := 43) hx hb dX10_escort_29 (by decide) (fun c29 => ?_) (fun c29 => ?_)
      · have h := im h c29
        exact w_X10_escort_43 C hR Z (lv_sub hl [0, 1, 2] rfl) h
      · have h := ip h c29
        refine lv_iload_n hx hb dX10_escort_32 rfl (lv_at hl 1 rfl) ?_
        refine lv_if_gt (tgt := 40) hx hb dX10_escort_33 (by decide) (fun c33 => ?_) (fun c33 => ?_)
        · have h := ip h c33
          refine lv_bipush (v := (-2)) hx hb dX10_escort_40 (by decide) ?_
          obtain rfl := Option.some.inj h
          exact hR _ _ _ _ _ Z dX10_escort_42 rfl
        · have h := im h c33
          refine lv_iload_n hx hb dX10_escort_36 rfl (lv_at hl 2 rfl) ?_
          refine lv_if_le (tgt := 43) hx hb dX10_escort_37 (by decide) (fun c37 => ?_) (fun c37 => ?_)
          · have h := ip h c37
            exact w_X10_escort_43 C hR Z (lv_sub hl [0, 1, 2] rfl) h
          · have h := im h c37
            refine lv_bipush (v := (-2)) hx hb dX10_escort_40 (by decide) ?_
            obtain rfl := Option.some.inj h
            exact hR _ _ _ _ _ Z dX10_escort_42 rfl
    · have h := ip h c17
      refine lv_iconst (v := (-1)) hx hb dX10_escort_20 (by decide) ?_
      obtain rfl := Option.some.inj h
      exact hR _ _ _ _ _ Z dX10_escort_21 rfl
theorem k_X10_escort {l : Launch} {kc : Nat → ClassId} {ad : Nat → Nat} {D : va_G} {adK adV : Nat → Nat} {x1 : Int32} {x2 : Int32} {σ : St} {R : Int32 × St} (h : f_X10_escort x1 x2 σ = some R) : KC (eC adK adV) tC kc ad D l yX10_escort (.code yX10_escort cX10_escort 3 (some .int)) r_X10_escort [.ref (ad 0), .int x1, .int x2] (some (.int R.1)) σ R.2 := by
  refine g_enter (by decide) (Nat.le_of_ble_eq_true rfl) ?_
  intro p e s m args below meth c A hA C hr hlocks Z ls hl
  have hl : lv_has ls 3 [(0, .ref (ad 0)), (1, .int x1), (2, .int x2)] := hl
  exact w_X10_escort_0 C (g_RTi C.1.1 C.1.2.1 hr hlocks hA)  Z hl h
def r_X10_escorts : Room := { frames := 2, cells := 0, slots := 0, locals := 43 }
set_option maxRecDepth 20000 in
theorem w_X10_escorts_0 {p : Program} {l : Launch} {e : Env} {s : State} {m : MethodId} {args : Array Value} {below : List Frame} {meth : Method} {c : Code} {Q : State → Prop} {D : va_G} {kc : Nat → ClassId} {ad : Nat → Nat} {A : Nat → Prop} {adK adV : Nat → Nat} (C : Cx (eC adK adV) p s m args c cX10_escorts 2 RX10 D kc A) {R : Int32} {x1 : Int32} {σ : St} (hR : RTi 0 0 p l e r_X10_escorts s m args below meth c cX10_escorts tC kc ad D A Q .int R σ) {H : Heap} {locs : List Loc} {ls : Array Slot} (Z : Dy tC kc ad D A s.heap σ H locs) (hl : lv_has ls 2 [(0, .ref (ad 0)), (1, .int x1)]) (h : f_X10_escorts x1 σ = some R) : W p l e r_X10_escorts s m args below meth c H locs 0 0 Q (F0 m 0 ls []) := by
  have hx := C.1.1
  have hb := C.1.2.1
  unfold f_X10_escorts at h
  refine lv_aload_n hx hb dX10_escorts_0 rfl (lv_at hl 0 rfl) ?_
  refine rg_X10_95 C Z dX10_escorts_1 ?_
  refine lv_iload_n hx hb dX10_escorts_4 rfl (lv_at hl 1 rfl) ?_
  obtain ⟨v2, hv2, h⟩ := ob h
  refine g_callVi (eC_ok adK adV) C Z (k_X0_given hv2) lk_X10_356 (by decide) rfl rfl hl (by decide) rfl (Nat.le_of_ble_eq_true rfl) (rest := []) rfl dX10_escorts_5 (fun H locs Z => ?_)
  obtain rfl := Option.some.inj h
  exact hR _ _ _ _ _ Z dX10_escorts_8 rfl
theorem k_X10_escorts {l : Launch} {kc : Nat → ClassId} {ad : Nat → Nat} {D : va_G} {adK adV : Nat → Nat} {x1 : Int32} {σ : St} {R : Int32} (h : f_X10_escorts x1 σ = some R) : KC (eC adK adV) tC kc ad D l yX10_escorts (.code yX10_escorts cX10_escorts 2 (some .int)) r_X10_escorts [.ref (ad 0), .int x1] (some (.int R)) σ σ := by
  refine g_enter (by decide) (Nat.le_of_ble_eq_true rfl) ?_
  intro p e s m args below meth c A hA C hr hlocks Z ls hl
  have hl : lv_has ls 2 [(0, .ref (ad 0)), (1, .int x1)] := hl
  exact w_X10_escorts_0 C (g_RTi C.1.1 C.1.2.1 hr hlocks hA)  Z hl h
def r_X10_count : Room := { frames := 0, cells := 0, slots := 0, locals := 0 }
set_option maxRecDepth 20000 in
theorem w_X10_count_0 {p : Program} {l : Launch} {e : Env} {s : State} {m : MethodId} {args : Array Value} {below : List Frame} {meth : Method} {c : Code} {Q : State → Prop} {D : va_G} {kc : Nat → ClassId} {ad : Nat → Nat} {A : Nat → Prop} {adK adV : Nat → Nat} (C : Cx (eC adK adV) p s m args c cX10_count 2 RX10 D kc A) {R : Int32} {x1 : Int32} {σ : St} (hR : RTi 0 0 p l e r_X10_count s m args below meth c cX10_count tC kc ad D A Q .int R σ) {H : Heap} {locs : List Loc} {ls : Array Slot} (Z : Dy tC kc ad D A s.heap σ H locs) (hl : lv_has ls 2 [(0, .ref (ad 0)), (1, .int x1)]) (h : f_X10_count x1 σ = some R) : W p l e r_X10_count s m args below meth c H locs 0 0 Q (F0 m 0 ls []) := by
  have hx := C.1.1
  have hb := C.1.2.1
  unfold f_X10_count at h
  refine lv_iload_n hx hb dX10_count_0 rfl (lv_at hl 1 rfl) ?_
  by_cases c1_0 : x1 = 0
  · have h := ip h c1_0
    refine lv_tableIn (tgt := 64) (off := 63) hx hb dX10_count_1 (by rw [c1_0]; decide) (by rw [c1_0]; decide) (by rw [c1_0]; decide) (by decide) ?_
    refine lv_aload_n hx hb dX10_count_64 rfl (lv_at hl 0 rfl) ?_
    refine rg_X10_7 C Z dX10_count_65 ?_
    obtain rfl := Option.some.inj h
    exact hR _ _ _ _ _ Z dX10_count_68 rfl
  have h := im h c1_0
  by_cases c1_1 : x1 = 1
  · have h := ip h c1_1
    refine lv_tableIn (tgt := 69) (off := 68) hx hb dX10_count_1 (by rw [c1_1]; decide) (by rw [c1_1]; decide) (by rw [c1_1]; decide) (by decide) ?_
    refine lv_aload_n hx hb dX10_count_69 rfl (lv_at hl 0 rfl) ?_
    refine rg_X10_23 C Z dX10_count_70 ?_
    refine rg_X10_185 C Z dX10_count_73 ?_
    obtain rfl := Option.some.inj h
    exact hR _ _ _ _ _ Z dX10_count_76 rfl
  have h := im h c1_1
  by_cases c1_2 : x1 = 2
  · have h := ip h c1_2
    refine lv_tableIn (tgt := 77) (off := 76) hx hb dX10_count_1 (by rw [c1_2]; decide) (by rw [c1_2]; decide) (by rw [c1_2]; decide) (by decide) ?_
    refine lv_aload_n hx hb dX10_count_77 rfl (lv_at hl 0 rfl) ?_
    refine rg_X10_30 C Z dX10_count_78 ?_
    refine rg_X10_197 C Z dX10_count_81 ?_
    obtain rfl := Option.some.inj h
    exact hR _ _ _ _ _ Z dX10_count_84 rfl
  have h := im h c1_2
  by_cases c1_3 : x1 = 3
  · have h := ip h c1_3
    refine lv_tableIn (tgt := 85) (off := 84) hx hb dX10_count_1 (by rw [c1_3]; decide) (by rw [c1_3]; decide) (by rw [c1_3]; decide) (by decide) ?_
    refine lv_aload_n hx hb dX10_count_85 rfl (lv_at hl 0 rfl) ?_
    refine rg_X10_16 C Z dX10_count_86 ?_
    refine rg_X10_359 C Z dX10_count_89 ?_
    refine lv_iconst (v := 0) hx hb dX10_count_92 (by decide) ?_
    obtain ⟨v5, hv5, h⟩ := ob h
    refine g_iald C Z iaC17 hv5 dX10_count_93 ?_
    obtain rfl := Option.some.inj h
    exact hR _ _ _ _ _ Z dX10_count_94 rfl
  have h := im h c1_3
  by_cases c1_4 : x1 = 4
  · have h := ip h c1_4
    refine lv_tableIn (tgt := 95) (off := 94) hx hb dX10_count_1 (by rw [c1_4]; decide) (by rw [c1_4]; decide) (by rw [c1_4]; decide) (by decide) ?_
    refine lv_aload_n hx hb dX10_count_95 rfl (lv_at hl 0 rfl) ?_
    refine rg_X10_16 C Z dX10_count_96 ?_
    refine rg_X10_359 C Z dX10_count_99 ?_
    refine lv_iconst (v := 1) hx hb dX10_count_102 (by decide) ?_
    obtain ⟨v6, hv6, h⟩ := ob h
    refine g_iald C Z iaC17 hv6 dX10_count_103 ?_
    obtain rfl := Option.some.inj h
    exact hR _ _ _ _ _ Z dX10_count_104 rfl
  have h := im h c1_4
  by_cases c1_5 : x1 = 5
  · have h := ip h c1_5
    refine lv_tableIn (tgt := 105) (off := 104) hx hb dX10_count_1 (by rw [c1_5]; decide) (by rw [c1_5]; decide) (by rw [c1_5]; decide) (by decide) ?_
    refine lv_aload_n hx hb dX10_count_105 rfl (lv_at hl 0 rfl) ?_
    refine rg_X10_37 C Z dX10_count_106 ?_
    refine rg_X10_362 C Z dX10_count_109 ?_
    obtain rfl := Option.some.inj h
    exact hR _ _ _ _ _ Z dX10_count_112 rfl
  have h := im h c1_5
  by_cases c1_6 : x1 = 6
  · have h := ip h c1_6
    refine lv_tableIn (tgt := 113) (off := 112) hx hb dX10_count_1 (by rw [c1_6]; decide) (by rw [c1_6]; decide) (by rw [c1_6]; decide) (by decide) ?_
    refine lv_aload_n hx hb dX10_count_113 rfl (lv_at hl 0 rfl) ?_
    refine rg_X10_61 C Z dX10_count_114 ?_
    obtain rfl := Option.some.inj h
    exact hR _ _ _ _ _ Z dX10_count_117 rfl
  have h := im h c1_6
  by_cases c1_7 : x1 = 7
  · have h := ip h c1_7
    refine lv_tableIn (tgt := 118) (off := 117) hx hb dX10_count_1 (by rw [c1_7]; decide) (by rw [c1_7]; decide) (by rw [c1_7]; decide) (by decide) ?_
    refine lv_aload_n hx hb dX10_count_118 rfl (lv_at hl 0 rfl) ?_
    refine rg_X10_81 C Z dX10_count_119 ?_
    refine rg_X10_363 C Z dX10_count_122 ?_
    obtain rfl := Option.some.inj h
    exact hR _ _ _ _ _ Z dX10_count_125 rfl
  have h := im h c1_7
  by_cases c1_8 : x1 = 8
  · have h := ip h c1_8
    refine lv_tableIn (tgt := 126) (off := 125) hx hb dX10_count_1 (by rw [c1_8]; decide) (by rw [c1_8]; decide) (by rw [c1_8]; decide) (by decide) ?_
    refine lv_aload_n hx hb dX10_count_126 rfl (lv_at hl 0 rfl) ?_
    refine rg_X10_81 C Z dX10_count_127 ?_
    refine rg_X10_364 C Z dX10_count_130 ?_
    obtain rfl := Option.some.inj h
    exact hR _ _ _ _ _ Z dX10_count_133 rfl
  have h := im h c1_8
  by_cases c1_9 : x1 = 9
  · have h := ip h c1_9
    refine lv_tableIn (tgt := 134) (off := 133) hx hb dX10_count_1 (by rw [c1_9]; decide) (by rw [c1_9]; decide) (by rw [c1_9]; decide) (by decide) ?_
    refine lv_aload_n hx hb dX10_count_134 rfl (lv_at hl 0 rfl) ?_
    refine rg_X10_88 C Z dX10_count_135 ?_
    refine rg_X10_367 C Z dX10_count_138 ?_
    obtain rfl := Option.some.inj h
    exact hR _ _ _ _ _ Z dX10_count_141 rfl
  have h := im h c1_9
  by_cases c1_10 : x1 = 10
  · have h := ip h c1_10
    refine lv_tableIn (tgt := 142) (off := 141) hx hb dX10_count_1 (by rw [c1_10]; decide) (by rw [c1_10]; decide) (by rw [c1_10]; decide) (by decide) ?_
    refine lv_aload_n hx hb dX10_count_142 rfl (lv_at hl 0 rfl) ?_
    refine rg_X10_95 C Z dX10_count_143 ?_
    refine rg_X10_352 C Z dX10_count_146 ?_
    obtain rfl := Option.some.inj h
    exact hR _ _ _ _ _ Z dX10_count_149 rfl
  have h := im h c1_10
  by_cases c1_11 : x1 = 11
  · have h := ip h c1_11
    refine lv_tableIn (tgt := 150) (off := 149) hx hb dX10_count_1 (by rw [c1_11]; decide) (by rw [c1_11]; decide) (by rw [c1_11]; decide) (by decide) ?_
    refine lv_aload_n hx hb dX10_count_150 rfl (lv_at hl 0 rfl) ?_
    refine rg_X10_46 C Z dX10_count_151 ?_
    refine rg_X10_215 C Z dX10_count_154 ?_
    obtain rfl := Option.some.inj h
    exact hR _ _ _ _ _ Z dX10_count_157 rfl
  have h := im h c1_11
  refine lv_tableOut (tgt := 158) hx hb dX10_count_1 ?_ (by decide) ?_
  · have t0 : ¬ x1.toInt = 0 := fun e => c1_0 (i32_of (b := 0) (n := 0) e (by decide)); have t1 : ¬ x1.toInt = 1 := fun e => c1_1 (i32_of (b := 1) (n := 1) e (by decide)); have t2 : ¬ x1.toInt = 2 := fun e => c1_2 (i32_of (b := 2) (n := 2) e (by decide)); have t3 : ¬ x1.toInt = 3 := fun e => c1_3 (i32_of (b := 3) (n := 3) e (by decide)); have t4 : ¬ x1.toInt = 4 := fun e => c1_4 (i32_of (b := 4) (n := 4) e (by decide)); have t5 : ¬ x1.toInt = 5 := fun e => c1_5 (i32_of (b := 5) (n := 5) e (by decide)); have t6 : ¬ x1.toInt = 6 := fun e => c1_6 (i32_of (b := 6) (n := 6) e (by decide)); have t7 : ¬ x1.toInt = 7 := fun e => c1_7 (i32_of (b := 7) (n := 7) e (by decide)); have t8 : ¬ x1.toInt = 8 := fun e => c1_8 (i32_of (b := 8) (n := 8) e (by decide)); have t9 : ¬ x1.toInt = 9 := fun e => c1_9 (i32_of (b := 9) (n := 9) e (by decide)); have t10 : ¬ x1.toInt = 10 := fun e => c1_10 (i32_of (b := 10) (n := 10) e (by decide)); have t11 : ¬ x1.toInt = 11 := fun e => c1_11 (i32_of (b := 11) (n := 11) e (by decide)); omega
  · refine lv_iconst (v := (-1)) hx hb dX10_count_158 (by decide) ?_
    obtain rfl := Option.some.inj h
    exact hR _ _ _ _ _ Z dX10_count_159 rfl
theorem k_X10_count {l : Launch} {kc : Nat → ClassId} {ad : Nat → Nat} {D : va_G} {adK adV : Nat → Nat} {x1 : Int32} {σ : St} {R : Int32} (h : f_X10_count x1 σ = some R) : KC (eC adK adV) tC kc ad D l yX10_count (.code yX10_count cX10_count 2 (some .int)) r_X10_count [.ref (ad 0), .int x1] (some (.int R)) σ σ := by
  refine g_enter (by decide) (Nat.le_of_ble_eq_true rfl) ?_
  intro p e s m args below meth c A hA C hr hlocks Z ls hl
  have hl : lv_has ls 2 [(0, .ref (ad 0)), (1, .int x1)] := hl
  exact w_X10_count_0 C (g_RTi C.1.1 C.1.2.1 hr hlocks hA)  Z hl h
